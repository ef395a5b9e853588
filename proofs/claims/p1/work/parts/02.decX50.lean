theorem dX5_init_0 : decode cX5_init 0 = .ok (.aload_n 0, 1) := by decide +kernel
theorem dX5_init_1 : decode cX5_init 1 = .ok (.invokespecial 1, 3) := by decide +kernel
theorem dX5_init_4 : decode cX5_init 4 = .ok (.aload_n 0, 1) := by decide +kernel
theorem dX5_init_5 : decode cX5_init 5 = .ok (.new 7, 3) := by decide +kernel
theorem dX5_init_8 : decode cX5_init 8 = .ok (.dup, 1) := by decide +kernel
theorem dX5_init_9 : decode cX5_init 9 = .ok (.invokespecial 9, 3) := by decide +kernel
theorem dX5_init_12 : decode cX5_init 12 = .ok (.putfield 10, 3) := by decide +kernel
theorem dX5_init_15 : decode cX5_init 15 = .ok (.aload_n 0, 1) := by decide +kernel
theorem dX5_init_16 : decode cX5_init 16 = .ok (.new 7, 3) := by decide +kernel
theorem dX5_init_19 : decode cX5_init 19 = .ok (.dup, 1) := by decide +kernel
theorem dX5_init_20 : decode cX5_init 20 = .ok (.invokespecial 9, 3) := by decide +kernel
theorem dX5_init_23 : decode cX5_init 23 = .ok (.putfield 16, 3) := by decide +kernel
theorem dX5_init_26 : decode cX5_init 26 = .ok (.aload_n 0, 1) := by decide +kernel
theorem dX5_init_27 : decode cX5_init 27 = .ok (.new 7, 3) := by decide +kernel
theorem dX5_init_30 : decode cX5_init 30 = .ok (.dup, 1) := by decide +kernel
theorem dX5_init_31 : decode cX5_init 31 = .ok (.invokespecial 9, 3) := by decide +kernel
theorem dX5_init_34 : decode cX5_init 34 = .ok (.putfield 19, 3) := by decide +kernel
theorem dX5_init_37 : decode cX5_init 37 = .ok (.return_, 1) := by decide +kernel
theorem dX5_thrown_0 : decode cX5_thrown 0 = .ok (.aload_n 0, 1) := by decide +kernel
theorem dX5_thrown_1 : decode cX5_thrown 1 = .ok (.getfield 22, 3) := by decide +kernel
theorem dX5_thrown_4 : decode cX5_thrown 4 = .ok (.ireturn, 1) := by decide +kernel
theorem dX5_refuse_0 : decode cX5_refuse 0 = .ok (.aload_n 0, 1) := by decide +kernel
theorem dX5_refuse_1 : decode cX5_refuse 1 = .ok (.iload_n 1, 1) := by decide +kernel
theorem dX5_refuse_2 : decode cX5_refuse 2 = .ok (.putfield 22, 3) := by decide +kernel
theorem dX5_refuse_5 : decode cX5_refuse 5 = .ok (.iconst 0, 1) := by decide +kernel
theorem dX5_refuse_6 : decode cX5_refuse 6 = .ok (.ireturn, 1) := by decide +kernel
theorem dX5_is_0 : decode cX5_is 0 = .ok (.iload_n 0, 1) := by decide +kernel
theorem dX5_is_1 : decode cX5_is 1 = .ok (.iload_n 1, 1) := by decide +kernel
theorem dX5_is_2 : decode cX5_is 2 = .ok (.if_icmp .lt 12, 3) := by decide +kernel
theorem dX5_is_5 : decode cX5_is 5 = .ok (.iload_n 0, 1) := by decide +kernel
theorem dX5_is_6 : decode cX5_is 6 = .ok (.iload_n 2, 1) := by decide +kernel
theorem dX5_is_7 : decode cX5_is 7 = .ok (.if_icmp .gt 7, 3) := by decide +kernel
theorem dX5_is_10 : decode cX5_is 10 = .ok (.iconst 1, 1) := by decide +kernel
theorem dX5_is_11 : decode cX5_is 11 = .ok (.goto 4, 3) := by decide +kernel
theorem dX5_is_14 : decode cX5_is 14 = .ok (.iconst 0, 1) := by decide +kernel
theorem dX5_is_15 : decode cX5_is 15 = .ok (.ireturn, 1) := by decide +kernel
theorem dX5_due_0 : decode cX5_due 0 = .ok (.iconst 0, 1) := by decide +kernel
theorem dX5_due_1 : decode cX5_due 1 = .ok (.istore_n 2, 1) := by decide +kernel
theorem dX5_due_2 : decode cX5_due 2 = .ok (.iconst 0, 1) := by decide +kernel
theorem dX5_due_3 : decode cX5_due 3 = .ok (.istore_n 3, 1) := by decide +kernel
theorem dX5_due_4 : decode cX5_due 4 = .ok (.iload_n 3, 1) := by decide +kernel
theorem dX5_due_5 : decode cX5_due 5 = .ok (.aload_n 0, 1) := by decide +kernel
theorem dX5_due_6 : decode cX5_due 6 = .ok (.getfield 19, 3) := by decide +kernel
theorem dX5_due_9 : decode cX5_due 9 = .ok (.invokevirtual 37, 3) := by decide +kernel
theorem dX5_due_12 : decode cX5_due 12 = .ok (.if_icmp .ge 67, 3) := by decide +kernel
theorem dX5_due_15 : decode cX5_due 15 = .ok (.iconst 0, 1) := by decide +kernel
theorem dX5_due_16 : decode cX5_due 16 = .ok (.istore 4, 2) := by decide +kernel
theorem dX5_due_18 : decode cX5_due 18 = .ok (.iload 4, 2) := by decide +kernel
theorem dX5_due_20 : decode cX5_due 20 = .ok (.iconst 3, 1) := by decide +kernel
theorem dX5_due_21 : decode cX5_due 21 = .ok (.if_icmp .ge 52, 3) := by decide +kernel
theorem dX5_due_24 : decode cX5_due 24 = .ok (.aload_n 0, 1) := by decide +kernel
theorem dX5_due_25 : decode cX5_due 25 = .ok (.getfield 19, 3) := by decide +kernel
theorem dX5_due_28 : decode cX5_due 28 = .ok (.iload_n 3, 1) := by decide +kernel
theorem dX5_due_29 : decode cX5_due 29 = .ok (.invokevirtual 41, 3) := by decide +kernel
theorem dX5_due_32 : decode cX5_due 32 = .ok (.checkcast 91, 3) := by decide +kernel
theorem dX5_due_35 : decode cX5_due 35 = .ok (.iload 4, 2) := by decide +kernel
theorem dX5_due_37 : decode cX5_due 37 = .ok (.aaload, 1) := by decide +kernel
theorem dX5_due_38 : decode cX5_due 38 = .ok (.astore 5, 2) := by decide +kernel
theorem dX5_due_40 : decode cX5_due 40 = .ok (.aload 5, 2) := by decide +kernel
theorem dX5_due_42 : decode cX5_due 42 = .ok (.getfield 93, 3) := by decide +kernel
theorem dX5_due_45 : decode cX5_due 45 = .ok (.iconst 1, 1) := by decide +kernel
theorem dX5_due_46 : decode cX5_due 46 = .ok (.if_icmp .ne 21, 3) := by decide +kernel
theorem dX5_due_49 : decode cX5_due 49 = .ok (.aload_n 0, 1) := by decide +kernel
theorem dX5_due_50 : decode cX5_due 50 = .ok (.aload 5, 2) := by decide +kernel
theorem dX5_due_52 : decode cX5_due 52 = .ok (.iload 4, 2) := by decide +kernel
theorem dX5_due_54 : decode cX5_due 54 = .ok (.iload_n 1, 1) := by decide +kernel
theorem dX5_due_55 : decode cX5_due 55 = .ok (.invokevirtual 94, 3) := by decide +kernel
theorem dX5_due_58 : decode cX5_due 58 = .ok (.ifCond .eq 9, 3) := by decide +kernel
theorem dX5_due_61 : decode cX5_due 61 = .ok (.iload_n 2, 1) := by decide +kernel
theorem dX5_due_62 : decode cX5_due 62 = .ok (.iconst 1, 1) := by decide +kernel
theorem dX5_due_63 : decode cX5_due 63 = .ok (.iload_n 3, 1) := by decide +kernel
theorem dX5_due_64 : decode cX5_due 64 = .ok (.ishl, 1) := by decide +kernel
theorem dX5_due_65 : decode cX5_due 65 = .ok (.ior, 1) := by decide +kernel
theorem dX5_due_66 : decode cX5_due 66 = .ok (.istore_n 2, 1) := by decide +kernel
theorem dX5_due_67 : decode cX5_due 67 = .ok (.iinc 4 1, 3) := by decide +kernel
theorem dX5_due_70 : decode cX5_due 70 = .ok (.goto (-52), 3) := by decide +kernel
theorem dX5_due_73 : decode cX5_due 73 = .ok (.iinc 3 1, 3) := by decide +kernel
theorem dX5_due_76 : decode cX5_due 76 = .ok (.goto (-72), 3) := by decide +kernel
theorem dX5_due_79 : decode cX5_due 79 = .ok (.iload_n 2, 1) := by decide +kernel
theorem dX5_due_80 : decode cX5_due 80 = .ok (.ireturn, 1) := by decide +kernel
theorem dX5_approved_0 : decode cX5_approved 0 = .ok (.iconst 0, 1) := by decide +kernel
theorem dX5_approved_1 : decode cX5_approved 1 = .ok (.istore_n 2, 1) := by decide +kernel
theorem dX5_approved_2 : decode cX5_approved 2 = .ok (.iconst 0, 1) := by decide +kernel
theorem dX5_approved_3 : decode cX5_approved 3 = .ok (.istore_n 3, 1) := by decide +kernel
theorem dX5_approved_4 : decode cX5_approved 4 = .ok (.iload_n 3, 1) := by decide +kernel
theorem dX5_approved_5 : decode cX5_approved 5 = .ok (.aload_n 0, 1) := by decide +kernel
theorem dX5_approved_6 : decode cX5_approved 6 = .ok (.getfield 19, 3) := by decide +kernel
theorem dX5_approved_9 : decode cX5_approved 9 = .ok (.invokevirtual 37, 3) := by decide +kernel
theorem dX5_approved_12 : decode cX5_approved 12 = .ok (.if_icmp .ge 75, 3) := by decide +kernel
theorem dX5_approved_15 : decode cX5_approved 15 = .ok (.aload_n 0, 1) := by decide +kernel
theorem dX5_approved_16 : decode cX5_approved 16 = .ok (.getfield 19, 3) := by decide +kernel
theorem dX5_approved_19 : decode cX5_approved 19 = .ok (.iload_n 3, 1) := by decide +kernel
theorem dX5_approved_20 : decode cX5_approved 20 = .ok (.invokevirtual 41, 3) := by decide +kernel
theorem dX5_approved_23 : decode cX5_approved 23 = .ok (.checkcast 91, 3) := by decide +kernel
theorem dX5_approved_26 : decode cX5_approved 26 = .ok (.astore 4, 2) := by decide +kernel
theorem dX5_approved_28 : decode cX5_approved 28 = .ok (.aload 4, 2) := by decide +kernel
theorem dX5_approved_30 : decode cX5_approved 30 = .ok (.arraylength, 1) := by decide +kernel
theorem dX5_approved_31 : decode cX5_approved 31 = .ok (.istore 5, 2) := by decide +kernel
theorem dX5_approved_33 : decode cX5_approved 33 = .ok (.iconst 0, 1) := by decide +kernel
theorem dX5_approved_34 : decode cX5_approved 34 = .ok (.istore 6, 2) := by decide +kernel
theorem dX5_approved_36 : decode cX5_approved 36 = .ok (.iload 6, 2) := by decide +kernel
theorem dX5_approved_38 : decode cX5_approved 38 = .ok (.iload 5, 2) := by decide +kernel
theorem dX5_approved_40 : decode cX5_approved 40 = .ok (.if_icmp .ge 41, 3) := by decide +kernel
theorem dX5_approved_43 : decode cX5_approved 43 = .ok (.aload 4, 2) := by decide +kernel
theorem dX5_approved_45 : decode cX5_approved 45 = .ok (.iload 6, 2) := by decide +kernel
theorem dX5_approved_47 : decode cX5_approved 47 = .ok (.aaload, 1) := by decide +kernel
theorem dX5_approved_48 : decode cX5_approved 48 = .ok (.astore 7, 2) := by decide +kernel
theorem dX5_approved_50 : decode cX5_approved 50 = .ok (.iload_n 2, 1) := by decide +kernel
theorem dX5_approved_51 : decode cX5_approved 51 = .ok (.iload_n 1, 1) := by decide +kernel
theorem dX5_approved_52 : decode cX5_approved 52 = .ok (.iload_n 3, 1) := by decide +kernel
theorem dX5_approved_53 : decode cX5_approved 53 = .ok (.invokestatic 98, 3) := by decide +kernel
theorem dX5_approved_56 : decode cX5_approved 56 = .ok (.ifCond .eq 16, 3) := by decide +kernel
theorem dX5_approved_59 : decode cX5_approved 59 = .ok (.aload 7, 2) := by decide +kernel
theorem dX5_approved_61 : decode cX5_approved 61 = .ok (.getfield 93, 3) := by decide +kernel
theorem dX5_approved_64 : decode cX5_approved 64 = .ok (.iconst 1, 1) := by decide +kernel
theorem dX5_approved_65 : decode cX5_approved 65 = .ok (.if_icmp .ne 7, 3) := by decide +kernel
theorem dX5_approved_68 : decode cX5_approved 68 = .ok (.iconst 1, 1) := by decide +kernel
theorem dX5_approved_69 : decode cX5_approved 69 = .ok (.goto 4, 3) := by decide +kernel
theorem dX5_approved_72 : decode cX5_approved 72 = .ok (.iconst 0, 1) := by decide +kernel
theorem dX5_approved_73 : decode cX5_approved 73 = .ok (.iadd, 1) := by decide +kernel
theorem dX5_approved_74 : decode cX5_approved 74 = .ok (.istore_n 2, 1) := by decide +kernel
theorem dX5_approved_75 : decode cX5_approved 75 = .ok (.iinc 6 1, 3) := by decide +kernel
theorem dX5_approved_78 : decode cX5_approved 78 = .ok (.goto (-42), 3) := by decide +kernel
theorem dX5_approved_81 : decode cX5_approved 81 = .ok (.iinc 3 1, 3) := by decide +kernel
theorem dX5_approved_84 : decode cX5_approved 84 = .ok (.goto (-80), 3) := by decide +kernel
theorem dX5_approved_87 : decode cX5_approved 87 = .ok (.iload_n 2, 1) := by decide +kernel
theorem dX5_approved_88 : decode cX5_approved 88 = .ok (.ireturn, 1) := by decide +kernel
theorem dX5_settle_0 : decode cX5_settle 0 = .ok (.aload_n 0, 1) := by decide +kernel
theorem dX5_settle_1 : decode cX5_settle 1 = .ok (.aload_n 0, 1) := by decide +kernel
theorem dX5_settle_2 : decode cX5_settle 2 = .ok (.getfield 102, 3) := by decide +kernel
theorem dX5_settle_5 : decode cX5_settle 5 = .ok (.invokevirtual 105, 3) := by decide +kernel
theorem dX5_settle_8 : decode cX5_settle 8 = .ok (.istore_n 1, 1) := by decide +kernel
theorem dX5_settle_9 : decode cX5_settle 9 = .ok (.aload_n 0, 1) := by decide +kernel
theorem dX5_settle_10 : decode cX5_settle 10 = .ok (.iload_n 1, 1) := by decide +kernel
theorem dX5_settle_11 : decode cX5_settle 11 = .ok (.invokevirtual 109, 3) := by decide +kernel
theorem dX5_settle_14 : decode cX5_settle 14 = .ok (.istore_n 2, 1) := by decide +kernel
theorem dX5_settle_15 : decode cX5_settle 15 = .ok (.iconst 0, 1) := by decide +kernel
theorem dX5_settle_16 : decode cX5_settle 16 = .ok (.istore_n 3, 1) := by decide +kernel
theorem dX5_settle_17 : decode cX5_settle 17 = .ok (.iload_n 3, 1) := by decide +kernel
theorem dX5_settle_18 : decode cX5_settle 18 = .ok (.aload_n 0, 1) := by decide +kernel
theorem dX5_settle_19 : decode cX5_settle 19 = .ok (.getfield 19, 3) := by decide +kernel
theorem dX5_settle_22 : decode cX5_settle 22 = .ok (.invokevirtual 37, 3) := by decide +kernel
theorem dX5_settle_25 : decode cX5_settle 25 = .ok (.if_icmp .ge 81, 3) := by decide +kernel
theorem dX5_settle_28 : decode cX5_settle 28 = .ok (.aload_n 0, 1) := by decide +kernel
theorem dX5_settle_29 : decode cX5_settle 29 = .ok (.getfield 19, 3) := by decide +kernel
theorem dX5_settle_32 : decode cX5_settle 32 = .ok (.iload_n 3, 1) := by decide +kernel
theorem dX5_settle_33 : decode cX5_settle 33 = .ok (.invokevirtual 41, 3) := by decide +kernel
theorem dX5_settle_36 : decode cX5_settle 36 = .ok (.checkcast 91, 3) := by decide +kernel
theorem dX5_settle_39 : decode cX5_settle 39 = .ok (.astore 4, 2) := by decide +kernel
theorem dX5_settle_41 : decode cX5_settle 41 = .ok (.aload 4, 2) := by decide +kernel
theorem dX5_settle_43 : decode cX5_settle 43 = .ok (.arraylength, 1) := by decide +kernel
theorem dX5_settle_44 : decode cX5_settle 44 = .ok (.istore 5, 2) := by decide +kernel
theorem dX5_settle_46 : decode cX5_settle 46 = .ok (.iconst 0, 1) := by decide +kernel
theorem dX5_settle_47 : decode cX5_settle 47 = .ok (.istore 6, 2) := by decide +kernel
theorem dX5_settle_49 : decode cX5_settle 49 = .ok (.iload 6, 2) := by decide +kernel
theorem dX5_settle_51 : decode cX5_settle 51 = .ok (.iload 5, 2) := by decide +kernel
theorem dX5_settle_53 : decode cX5_settle 53 = .ok (.if_icmp .ge 47, 3) := by decide +kernel
theorem dX5_settle_56 : decode cX5_settle 56 = .ok (.aload 4, 2) := by decide +kernel
theorem dX5_settle_58 : decode cX5_settle 58 = .ok (.iload 6, 2) := by decide +kernel
theorem dX5_settle_60 : decode cX5_settle 60 = .ok (.aaload, 1) := by decide +kernel
theorem dX5_settle_61 : decode cX5_settle 61 = .ok (.astore 7, 2) := by decide +kernel
theorem dX5_settle_63 : decode cX5_settle 63 = .ok (.aload 7, 2) := by decide +kernel
theorem dX5_settle_65 : decode cX5_settle 65 = .ok (.iload_n 1, 1) := by decide +kernel
theorem dX5_settle_66 : decode cX5_settle 66 = .ok (.iload_n 3, 1) := by decide +kernel
theorem dX5_settle_67 : decode cX5_settle 67 = .ok (.invokestatic 98, 3) := by decide +kernel
theorem dX5_settle_70 : decode cX5_settle 70 = .ok (.ifCond .eq 16, 3) := by decide +kernel
theorem dX5_settle_73 : decode cX5_settle 73 = .ok (.aload 7, 2) := by decide +kernel
theorem dX5_settle_75 : decode cX5_settle 75 = .ok (.getfield 93, 3) := by decide +kernel
theorem dX5_settle_78 : decode cX5_settle 78 = .ok (.iconst 1, 1) := by decide +kernel
theorem dX5_settle_79 : decode cX5_settle 79 = .ok (.if_icmp .ne 7, 3) := by decide +kernel
theorem dX5_settle_82 : decode cX5_settle 82 = .ok (.iconst 2, 1) := by decide +kernel
theorem dX5_settle_83 : decode cX5_settle 83 = .ok (.goto 8, 3) := by decide +kernel
theorem dX5_settle_86 : decode cX5_settle 86 = .ok (.aload 7, 2) := by decide +kernel
theorem dX5_settle_88 : decode cX5_settle 88 = .ok (.getfield 93, 3) := by decide +kernel
theorem dX5_settle_91 : decode cX5_settle 91 = .ok (.putfield 93, 3) := by decide +kernel
theorem dX5_settle_94 : decode cX5_settle 94 = .ok (.iinc 6 1, 3) := by decide +kernel
theorem dX5_settle_97 : decode cX5_settle 97 = .ok (.goto (-48), 3) := by decide +kernel
theorem dX5_settle_100 : decode cX5_settle 100 = .ok (.iinc 3 1, 3) := by decide +kernel
theorem dX5_settle_103 : decode cX5_settle 103 = .ok (.goto (-86), 3) := by decide +kernel
theorem dX5_settle_106 : decode cX5_settle 106 = .ok (.iload_n 2, 1) := by decide +kernel
theorem dX5_settle_107 : decode cX5_settle 107 = .ok (.ireturn, 1) := by decide +kernel
theorem dX5_isConcept_0 : decode cX5_isConcept 0 = .ok (.iload_n 1, 1) := by decide +kernel
theorem dX5_isConcept_1 : decode cX5_isConcept 1 = .ok (.iconst 0, 1) := by decide +kernel
theorem dX5_isConcept_2 : decode cX5_isConcept 2 = .ok (.aload_n 0, 1) := by decide +kernel
theorem dX5_isConcept_3 : decode cX5_isConcept 3 = .ok (.getfield 10, 3) := by decide +kernel
theorem dX5_isConcept_6 : decode cX5_isConcept 6 = .ok (.invokevirtual 37, 3) := by decide +kernel
theorem dX5_isConcept_9 : decode cX5_isConcept 9 = .ok (.iconst 1, 1) := by decide +kernel
theorem dX5_isConcept_10 : decode cX5_isConcept 10 = .ok (.isub, 1) := by decide +kernel
theorem dX5_isConcept_11 : decode cX5_isConcept 11 = .ok (.invokestatic 112, 3) := by decide +kernel
theorem dX5_isConcept_14 : decode cX5_isConcept 14 = .ok (.ireturn, 1) := by decide +kernel
theorem dX5_isTerm_0 : decode cX5_isTerm 0 = .ok (.iload_n 1, 1) := by decide +kernel
theorem dX5_isTerm_1 : decode cX5_isTerm 1 = .ok (.iconst 0, 1) := by decide +kernel
theorem dX5_isTerm_2 : decode cX5_isTerm 2 = .ok (.aload_n 0, 1) := by decide +kernel
theorem dX5_isTerm_3 : decode cX5_isTerm 3 = .ok (.getfield 16, 3) := by decide +kernel
theorem dX5_isTerm_6 : decode cX5_isTerm 6 = .ok (.invokevirtual 37, 3) := by decide +kernel
theorem dX5_isTerm_9 : decode cX5_isTerm 9 = .ok (.iconst 1, 1) := by decide +kernel
theorem dX5_isTerm_10 : decode cX5_isTerm 10 = .ok (.isub, 1) := by decide +kernel
theorem dX5_isTerm_11 : decode cX5_isTerm 11 = .ok (.invokestatic 112, 3) := by decide +kernel
theorem dX5_isTerm_14 : decode cX5_isTerm 14 = .ok (.ireturn, 1) := by decide +kernel
theorem dX5_isLanguage_0 : decode cX5_isLanguage 0 = .ok (.iload_n 0, 1) := by decide +kernel
theorem dX5_isLanguage_1 : decode cX5_isLanguage 1 = .ok (.iconst 0, 1) := by decide +kernel
theorem dX5_isLanguage_2 : decode cX5_isLanguage 2 = .ok (.iconst 2, 1) := by decide +kernel
theorem dX5_isLanguage_3 : decode cX5_isLanguage 3 = .ok (.invokestatic 112, 3) := by decide +kernel
theorem dX5_isLanguage_6 : decode cX5_isLanguage 6 = .ok (.ireturn, 1) := by decide +kernel
theorem dX5_isText_0 : decode cX5_isText 0 = .ok (.iload_n 1, 1) := by decide +kernel
theorem dX5_isText_1 : decode cX5_isText 1 = .ok (.iconst 0, 1) := by decide +kernel
theorem dX5_isText_2 : decode cX5_isText 2 = .ok (.aload_n 0, 1) := by decide +kernel
theorem dX5_isText_3 : decode cX5_isText 3 = .ok (.getfield 19, 3) := by decide +kernel
theorem dX5_isText_6 : decode cX5_isText 6 = .ok (.invokevirtual 37, 3) := by decide +kernel
theorem dX5_isText_9 : decode cX5_isText 9 = .ok (.iconst 1, 1) := by decide +kernel
theorem dX5_isText_10 : decode cX5_isText 10 = .ok (.isub, 1) := by decide +kernel
theorem dX5_isText_11 : decode cX5_isText 11 = .ok (.invokestatic 112, 3) := by decide +kernel
theorem dX5_isText_14 : decode cX5_isText 14 = .ok (.ifCond .eq 14, 3) := by decide +kernel
theorem dX5_isText_17 : decode cX5_isText 17 = .ok (.iload_n 2, 1) := by decide +kernel
theorem dX5_isText_18 : decode cX5_isText 18 = .ok (.invokestatic 116, 3) := by decide +kernel
theorem dX5_isText_21 : decode cX5_isText 21 = .ok (.ifCond .eq 7, 3) := by decide +kernel
theorem dX5_isText_24 : decode cX5_isText 24 = .ok (.iconst 1, 1) := by decide +kernel
theorem dX5_isText_25 : decode cX5_isText 25 = .ok (.goto 4, 3) := by decide +kernel
theorem dX5_isText_28 : decode cX5_isText 28 = .ok (.iconst 0, 1) := by decide +kernel
theorem dX5_isText_29 : decode cX5_isText 29 = .ok (.ireturn, 1) := by decide +kernel
theorem dX5_concept_0 : decode cX5_concept 0 = .ok (.aload_n 0, 1) := by decide +kernel
theorem dX5_concept_1 : decode cX5_concept 1 = .ok (.iconst 0, 1) := by decide +kernel
theorem dX5_concept_2 : decode cX5_concept 2 = .ok (.putfield 22, 3) := by decide +kernel
theorem dX5_concept_5 : decode cX5_concept 5 = .ok (.iload_n 1, 1) := by decide +kernel
theorem dX5_concept_6 : decode cX5_concept 6 = .ok (.iconst 0, 1) := by decide +kernel
theorem dX5_concept_7 : decode cX5_concept 7 = .ok (.iconst 3, 1) := by decide +kernel
theorem dX5_concept_8 : decode cX5_concept 8 = .ok (.invokestatic 112, 3) := by decide +kernel
theorem dX5_concept_11 : decode cX5_concept 11 = .ok (.ifCond .ne 9, 3) := by decide +kernel
theorem dX5_concept_14 : decode cX5_concept 14 = .ok (.aload_n 0, 1) := by decide +kernel
theorem dX5_concept_15 : decode cX5_concept 15 = .ok (.iconst 1, 1) := by decide +kernel
theorem dX5_concept_16 : decode cX5_concept 16 = .ok (.invokevirtual 119, 3) := by decide +kernel
theorem dX5_concept_19 : decode cX5_concept 19 = .ok (.ireturn, 1) := by decide +kernel
theorem dX5_concept_20 : decode cX5_concept 20 = .ok (.aload_n 0, 1) := by decide +kernel
theorem dX5_concept_21 : decode cX5_concept 21 = .ok (.getfield 10, 3) := by decide +kernel
theorem dX5_concept_24 : decode cX5_concept 24 = .ok (.invokevirtual 37, 3) := by decide +kernel
theorem dX5_concept_27 : decode cX5_concept 27 = .ok (.bipush 12, 2) := by decide +kernel
theorem dX5_concept_29 : decode cX5_concept 29 = .ok (.if_icmp .ne 9, 3) := by decide +kernel
theorem dX5_concept_32 : decode cX5_concept 32 = .ok (.aload_n 0, 1) := by decide +kernel
theorem dX5_concept_33 : decode cX5_concept 33 = .ok (.iconst 2, 1) := by decide +kernel
theorem dX5_concept_34 : decode cX5_concept 34 = .ok (.invokevirtual 119, 3) := by decide +kernel
theorem dX5_concept_37 : decode cX5_concept 37 = .ok (.ireturn, 1) := by decide +kernel
theorem dX5_concept_38 : decode cX5_concept 38 = .ok (.aload_n 0, 1) := by decide +kernel
theorem dX5_concept_39 : decode cX5_concept 39 = .ok (.getfield 10, 3) := by decide +kernel
theorem dX5_concept_42 : decode cX5_concept 42 = .ok (.iload_n 1, 1) := by decide +kernel
theorem dX5_concept_43 : decode cX5_concept 43 = .ok (.invokestatic 122, 3) := by decide +kernel
theorem dX5_concept_46 : decode cX5_concept 46 = .ok (.invokevirtual 126, 3) := by decide +kernel
theorem dX5_concept_49 : decode cX5_concept 49 = .ok (.pop, 1) := by decide +kernel
theorem dX5_concept_50 : decode cX5_concept 50 = .ok (.aload_n 0, 1) := by decide +kernel
theorem dX5_concept_51 : decode cX5_concept 51 = .ok (.getfield 10, 3) := by decide +kernel
theorem dX5_concept_54 : decode cX5_concept 54 = .ok (.invokevirtual 37, 3) := by decide +kernel
theorem dX5_concept_57 : decode cX5_concept 57 = .ok (.iconst 1, 1) := by decide +kernel
theorem dX5_concept_58 : decode cX5_concept 58 = .ok (.isub, 1) := by decide +kernel
theorem dX5_concept_59 : decode cX5_concept 59 = .ok (.ireturn, 1) := by decide +kernel
theorem dX5_term_0 : decode cX5_term 0 = .ok (.aload_n 0, 1) := by decide +kernel
theorem dX5_term_1 : decode cX5_term 1 = .ok (.iconst 0, 1) := by decide +kernel
theorem dX5_term_2 : decode cX5_term 2 = .ok (.putfield 22, 3) := by decide +kernel
theorem dX5_term_5 : decode cX5_term 5 = .ok (.aload_n 0, 1) := by decide +kernel
theorem dX5_term_6 : decode cX5_term 6 = .ok (.iload_n 1, 1) := by decide +kernel
theorem dX5_term_7 : decode cX5_term 7 = .ok (.invokevirtual 130, 3) := by decide +kernel
theorem dX5_term_10 : decode cX5_term 10 = .ok (.ifCond .eq 10, 3) := by decide +kernel
theorem dX5_term_13 : decode cX5_term 13 = .ok (.iload_n 2, 1) := by decide +kernel
theorem dX5_term_14 : decode cX5_term 14 = .ok (.invokestatic 116, 3) := by decide +kernel
theorem dX5_term_17 : decode cX5_term 17 = .ok (.ifCond .ne 9, 3) := by decide +kernel
theorem dX5_term_20 : decode cX5_term 20 = .ok (.aload_n 0, 1) := by decide +kernel
theorem dX5_term_21 : decode cX5_term 21 = .ok (.iconst 1, 1) := by decide +kernel
theorem dX5_term_22 : decode cX5_term 22 = .ok (.invokevirtual 119, 3) := by decide +kernel
theorem dX5_term_25 : decode cX5_term 25 = .ok (.ireturn, 1) := by decide +kernel
theorem dX5_term_26 : decode cX5_term 26 = .ok (.iload_n 3, 1) := by decide +kernel
theorem dX5_term_27 : decode cX5_term 27 = .ok (.iconst 0, 1) := by decide +kernel
theorem dX5_term_28 : decode cX5_term 28 = .ok (.bipush 19, 2) := by decide +kernel
theorem dX5_term_30 : decode cX5_term 30 = .ok (.invokestatic 112, 3) := by decide +kernel
theorem dX5_term_33 : decode cX5_term 33 = .ok (.ifCond .ne 9, 3) := by decide +kernel
theorem dX5_term_36 : decode cX5_term 36 = .ok (.aload_n 0, 1) := by decide +kernel
theorem dX5_term_37 : decode cX5_term 37 = .ok (.iconst 2, 1) := by decide +kernel
theorem dX5_term_38 : decode cX5_term 38 = .ok (.invokevirtual 119, 3) := by decide +kernel
theorem dX5_term_41 : decode cX5_term 41 = .ok (.ireturn, 1) := by decide +kernel
theorem dX5_term_42 : decode cX5_term 42 = .ok (.new 27, 3) := by decide +kernel
theorem dX5_term_45 : decode cX5_term 45 = .ok (.dup, 1) := by decide +kernel
theorem dX5_term_46 : decode cX5_term 46 = .ok (.aload_n 0, 1) := by decide +kernel
theorem dX5_term_47 : decode cX5_term 47 = .ok (.getfield 16, 3) := by decide +kernel
theorem dX5_term_50 : decode cX5_term 50 = .ok (.invokevirtual 37, 3) := by decide +kernel
theorem dX5_term_53 : decode cX5_term 53 = .ok (.iload_n 1, 1) := by decide +kernel
theorem dX5_term_54 : decode cX5_term 54 = .ok (.iload_n 2, 1) := by decide +kernel
theorem dX5_term_55 : decode cX5_term 55 = .ok (.iload_n 3, 1) := by decide +kernel
theorem dX5_term_56 : decode cX5_term 56 = .ok (.invokespecial 133, 3) := by decide +kernel
theorem dX5_term_59 : decode cX5_term 59 = .ok (.astore 4, 2) := by decide +kernel
theorem dX5_term_61 : decode cX5_term 61 = .ok (.aload_n 0, 1) := by decide +kernel
theorem dX5_term_62 : decode cX5_term 62 = .ok (.getfield 16, 3) := by decide +kernel
theorem dX5_term_65 : decode cX5_term 65 = .ok (.invokevirtual 37, 3) := by decide +kernel
theorem dX5_term_68 : decode cX5_term 68 = .ok (.bipush 24, 2) := by decide +kernel
theorem dX5_term_70 : decode cX5_term 70 = .ok (.if_icmp .ne 7, 3) := by decide +kernel
theorem dX5_term_73 : decode cX5_term 73 = .ok (.iconst 1, 1) := by decide +kernel
theorem dX5_term_74 : decode cX5_term 74 = .ok (.goto 4, 3) := by decide +kernel
theorem dX5_term_77 : decode cX5_term 77 = .ok (.iconst 0, 1) := by decide +kernel
theorem dX5_term_78 : decode cX5_term 78 = .ok (.istore 5, 2) := by decide +kernel
theorem dX5_term_80 : decode cX5_term 80 = .ok (.aload_n 0, 1) := by decide +kernel
theorem dX5_term_81 : decode cX5_term 81 = .ok (.getfield 16, 3) := by decide +kernel
theorem dX5_term_84 : decode cX5_term 84 = .ok (.invokevirtual 136, 3) := by decide +kernel
theorem dX5_term_87 : decode cX5_term 87 = .ok (.astore 6, 2) := by decide +kernel
theorem dX5_term_89 : decode cX5_term 89 = .ok (.aload 6, 2) := by decide +kernel
theorem dX5_term_91 : decode cX5_term 91 = .ok (.invokeinterface 140 1, 5) := by decide +kernel
theorem dX5_term_96 : decode cX5_term 96 = .ok (.ifCond .eq 47, 3) := by decide +kernel
theorem dX5_term_99 : decode cX5_term 99 = .ok (.aload 6, 2) := by decide +kernel
theorem dX5_term_101 : decode cX5_term 101 = .ok (.invokeinterface 146 1, 5) := by decide +kernel
theorem dX5_term_106 : decode cX5_term 106 = .ok (.checkcast 27, 3) := by decide +kernel
theorem dX5_term_109 : decode cX5_term 109 = .ok (.astore 7, 2) := by decide +kernel
theorem dX5_term_111 : decode cX5_term 111 = .ok (.iload 5, 2) := by decide +kernel
theorem dX5_term_113 : decode cX5_term 113 = .ok (.aload 7, 2) := by decide +kernel
theorem dX5_term_115 : decode cX5_term 115 = .ok (.aload 4, 2) := by decide +kernel
theorem dX5_term_117 : decode cX5_term 117 = .ok (.invokevirtual 150, 3) := by decide +kernel
theorem dX5_term_120 : decode cX5_term 120 = .ok (.ifCond .eq 16, 3) := by decide +kernel
theorem dX5_term_123 : decode cX5_term 123 = .ok (.aload 7, 2) := by decide +kernel
theorem dX5_term_125 : decode cX5_term 125 = .ok (.getfield 31, 3) := by decide +kernel
theorem dX5_term_128 : decode cX5_term 128 = .ok (.iload_n 3, 1) := by decide +kernel
theorem dX5_term_129 : decode cX5_term 129 = .ok (.if_icmp .ne 7, 3) := by decide +kernel
theorem dX5_term_132 : decode cX5_term 132 = .ok (.iconst 1, 1) := by decide +kernel
theorem dX5_term_133 : decode cX5_term 133 = .ok (.goto 4, 3) := by decide +kernel
theorem dX5_term_136 : decode cX5_term 136 = .ok (.iconst 0, 1) := by decide +kernel
theorem dX5_term_137 : decode cX5_term 137 = .ok (.ior, 1) := by decide +kernel
theorem dX5_term_138 : decode cX5_term 138 = .ok (.istore 5, 2) := by decide +kernel
theorem dX5_term_140 : decode cX5_term 140 = .ok (.goto (-51), 3) := by decide +kernel
theorem dX5_term_143 : decode cX5_term 143 = .ok (.iload 5, 2) := by decide +kernel
theorem dX5_term_145 : decode cX5_term 145 = .ok (.ifCond .eq 9, 3) := by decide +kernel
theorem dX5_term_148 : decode cX5_term 148 = .ok (.aload_n 0, 1) := by decide +kernel
theorem dX5_term_149 : decode cX5_term 149 = .ok (.iconst 3, 1) := by decide +kernel
theorem dX5_term_150 : decode cX5_term 150 = .ok (.invokevirtual 119, 3) := by decide +kernel
theorem dX5_term_153 : decode cX5_term 153 = .ok (.ireturn, 1) := by decide +kernel
theorem dX5_term_154 : decode cX5_term 154 = .ok (.aload_n 0, 1) := by decide +kernel
theorem dX5_term_155 : decode cX5_term 155 = .ok (.getfield 16, 3) := by decide +kernel
theorem dX5_term_158 : decode cX5_term 158 = .ok (.aload 4, 2) := by decide +kernel
theorem dX5_term_160 : decode cX5_term 160 = .ok (.invokevirtual 126, 3) := by decide +kernel
theorem dX5_term_163 : decode cX5_term 163 = .ok (.pop, 1) := by decide +kernel
theorem dX5_term_164 : decode cX5_term 164 = .ok (.aload 4, 2) := by decide +kernel
theorem dX5_term_166 : decode cX5_term 166 = .ok (.getfield 84, 3) := by decide +kernel
theorem dX5_term_169 : decode cX5_term 169 = .ok (.ireturn, 1) := by decide +kernel
theorem dX5_vote_0 : decode cX5_vote 0 = .ok (.aload_n 0, 1) := by decide +kernel
theorem dX5_vote_1 : decode cX5_vote 1 = .ok (.iconst 0, 1) := by decide +kernel
theorem dX5_vote_2 : decode cX5_vote 2 = .ok (.putfield 22, 3) := by decide +kernel
theorem dX5_vote_5 : decode cX5_vote 5 = .ok (.aload_n 0, 1) := by decide +kernel
theorem dX5_vote_6 : decode cX5_vote 6 = .ok (.iload_n 1, 1) := by decide +kernel
theorem dX5_vote_7 : decode cX5_vote 7 = .ok (.invokevirtual 154, 3) := by decide +kernel
theorem dX5_vote_10 : decode cX5_vote 10 = .ok (.ifCond .eq 12, 3) := by decide +kernel
theorem dX5_vote_13 : decode cX5_vote 13 = .ok (.iload_n 2, 1) := by decide +kernel
theorem dX5_vote_14 : decode cX5_vote 14 = .ok (.iconst 0, 1) := by decide +kernel
theorem dX5_vote_15 : decode cX5_vote 15 = .ok (.iconst 4, 1) := by decide +kernel
theorem dX5_vote_16 : decode cX5_vote 16 = .ok (.invokestatic 112, 3) := by decide +kernel
theorem dX5_vote_19 : decode cX5_vote 19 = .ok (.ifCond .ne 9, 3) := by decide +kernel
theorem dX5_vote_22 : decode cX5_vote 22 = .ok (.aload_n 0, 1) := by decide +kernel
theorem dX5_vote_23 : decode cX5_vote 23 = .ok (.iconst 1, 1) := by decide +kernel
theorem dX5_vote_24 : decode cX5_vote 24 = .ok (.invokevirtual 119, 3) := by decide +kernel
theorem dX5_vote_27 : decode cX5_vote 27 = .ok (.ireturn, 1) := by decide +kernel
theorem dX5_vote_28 : decode cX5_vote 28 = .ok (.aload_n 0, 1) := by decide +kernel
theorem dX5_vote_29 : decode cX5_vote 29 = .ok (.getfield 16, 3) := by decide +kernel
theorem dX5_vote_32 : decode cX5_vote 32 = .ok (.iload_n 1, 1) := by decide +kernel
theorem dX5_vote_33 : decode cX5_vote 33 = .ok (.invokevirtual 41, 3) := by decide +kernel
theorem dX5_vote_36 : decode cX5_vote 36 = .ok (.checkcast 27, 3) := by decide +kernel
theorem dX5_vote_39 : decode cX5_vote 39 = .ok (.astore 4, 2) := by decide +kernel
theorem dX5_vote_41 : decode cX5_vote 41 = .ok (.aload 4, 2) := by decide +kernel
theorem dX5_vote_43 : decode cX5_vote 43 = .ok (.getfield 34, 3) := by decide +kernel
theorem dX5_vote_46 : decode cX5_vote 46 = .ok (.ifCond .ne 21, 3) := by decide +kernel
theorem dX5_vote_49 : decode cX5_vote 49 = .ok (.aload 4, 2) := by decide +kernel
theorem dX5_vote_51 : decode cX5_vote 51 = .ok (.getfield 157, 3) := by decide +kernel
theorem dX5_vote_54 : decode cX5_vote 54 = .ok (.aload 4, 2) := by decide +kernel
theorem dX5_vote_56 : decode cX5_vote 56 = .ok (.getfield 160, 3) := by decide +kernel
theorem dX5_vote_59 : decode cX5_vote 59 = .ok (.ior, 1) := by decide +kernel
theorem dX5_vote_60 : decode cX5_vote 60 = .ok (.iload_n 2, 1) := by decide +kernel
theorem dX5_vote_61 : decode cX5_vote 61 = .ok (.invokestatic 98, 3) := by decide +kernel
theorem dX5_vote_64 : decode cX5_vote 64 = .ok (.ifCond .eq 9, 3) := by decide +kernel
theorem dX5_vote_67 : decode cX5_vote 67 = .ok (.aload_n 0, 1) := by decide +kernel
theorem dX5_vote_68 : decode cX5_vote 68 = .ok (.iconst 2, 1) := by decide +kernel
theorem dX5_vote_69 : decode cX5_vote 69 = .ok (.invokevirtual 119, 3) := by decide +kernel
theorem dX5_vote_72 : decode cX5_vote 72 = .ok (.ireturn, 1) := by decide +kernel
theorem dX5_vote_73 : decode cX5_vote 73 = .ok (.iload_n 3, 1) := by decide +kernel
theorem dX5_vote_74 : decode cX5_vote 74 = .ok (.ifCond .eq 19, 3) := by decide +kernel
theorem dX5_vote_77 : decode cX5_vote 77 = .ok (.aload 4, 2) := by decide +kernel
theorem dX5_vote_79 : decode cX5_vote 79 = .ok (.dup, 1) := by decide +kernel
theorem dX5_vote_80 : decode cX5_vote 80 = .ok (.getfield 157, 3) := by decide +kernel
theorem dX5_vote_83 : decode cX5_vote 83 = .ok (.iconst 1, 1) := by decide +kernel
theorem dX5_vote_84 : decode cX5_vote 84 = .ok (.iload_n 2, 1) := by decide +kernel
theorem dX5_vote_85 : decode cX5_vote 85 = .ok (.ishl, 1) := by decide +kernel
theorem dX5_vote_86 : decode cX5_vote 86 = .ok (.ior, 1) := by decide +kernel
theorem dX5_vote_87 : decode cX5_vote 87 = .ok (.putfield 157, 3) := by decide +kernel
theorem dX5_vote_90 : decode cX5_vote 90 = .ok (.goto 16, 3) := by decide +kernel
theorem dX5_vote_93 : decode cX5_vote 93 = .ok (.aload 4, 2) := by decide +kernel
theorem dX5_vote_95 : decode cX5_vote 95 = .ok (.dup, 1) := by decide +kernel
theorem dX5_vote_96 : decode cX5_vote 96 = .ok (.getfield 160, 3) := by decide +kernel
theorem dX5_vote_99 : decode cX5_vote 99 = .ok (.iconst 1, 1) := by decide +kernel
theorem dX5_vote_100 : decode cX5_vote 100 = .ok (.iload_n 2, 1) := by decide +kernel
theorem dX5_vote_101 : decode cX5_vote 101 = .ok (.ishl, 1) := by decide +kernel
theorem dX5_vote_102 : decode cX5_vote 102 = .ok (.ior, 1) := by decide +kernel
theorem dX5_vote_103 : decode cX5_vote 103 = .ok (.putfield 160, 3) := by decide +kernel
theorem dX5_vote_106 : decode cX5_vote 106 = .ok (.aload 4, 2) := by decide +kernel
theorem dX5_vote_108 : decode cX5_vote 108 = .ok (.getfield 157, 3) := by decide +kernel
theorem dX5_vote_111 : decode cX5_vote 111 = .ok (.invokestatic 163, 3) := by decide +kernel
theorem dX5_vote_114 : decode cX5_vote 114 = .ok (.iconst 3, 1) := by decide +kernel
theorem dX5_vote_115 : decode cX5_vote 115 = .ok (.if_icmp .ne 9, 3) := by decide +kernel
theorem dX5_vote_118 : decode cX5_vote 118 = .ok (.aload 4, 2) := by decide +kernel
theorem dX5_vote_120 : decode cX5_vote 120 = .ok (.iconst 1, 1) := by decide +kernel
theorem dX5_vote_121 : decode cX5_vote 121 = .ok (.putfield 34, 3) := by decide +kernel
theorem dX5_vote_124 : decode cX5_vote 124 = .ok (.aload 4, 2) := by decide +kernel
theorem dX5_vote_126 : decode cX5_vote 126 = .ok (.getfield 160, 3) := by decide +kernel
theorem dX5_vote_129 : decode cX5_vote 129 = .ok (.invokestatic 163, 3) := by decide +kernel
theorem dX5_vote_132 : decode cX5_vote 132 = .ok (.iconst 3, 1) := by decide +kernel
theorem dX5_vote_133 : decode cX5_vote 133 = .ok (.if_icmp .ne 15, 3) := by decide +kernel
theorem dX5_vote_136 : decode cX5_vote 136 = .ok (.aload 4, 2) := by decide +kernel
theorem dX5_vote_138 : decode cX5_vote 138 = .ok (.iconst 0, 1) := by decide +kernel
theorem dX5_vote_139 : decode cX5_vote 139 = .ok (.putfield 157, 3) := by decide +kernel
theorem dX5_vote_142 : decode cX5_vote 142 = .ok (.aload 4, 2) := by decide +kernel
theorem dX5_vote_144 : decode cX5_vote 144 = .ok (.iconst 0, 1) := by decide +kernel
theorem dX5_vote_145 : decode cX5_vote 145 = .ok (.putfield 160, 3) := by decide +kernel
theorem dX5_vote_148 : decode cX5_vote 148 = .ok (.aload_n 0, 1) := by decide +kernel
theorem dX5_vote_149 : decode cX5_vote 149 = .ok (.invokevirtual 166, 3) := by decide +kernel
theorem dX5_vote_152 : decode cX5_vote 152 = .ok (.pop, 1) := by decide +kernel
theorem dX5_vote_153 : decode cX5_vote 153 = .ok (.aload 4, 2) := by decide +kernel
theorem dX5_vote_155 : decode cX5_vote 155 = .ok (.getfield 34, 3) := by decide +kernel
theorem dX5_vote_158 : decode cX5_vote 158 = .ok (.ireturn, 1) := by decide +kernel
theorem dX5_prefer_0 : decode cX5_prefer 0 = .ok (.aload_n 0, 1) := by decide +kernel
theorem dX5_prefer_1 : decode cX5_prefer 1 = .ok (.iconst 0, 1) := by decide +kernel
theorem dX5_prefer_2 : decode cX5_prefer 2 = .ok (.putfield 22, 3) := by decide +kernel
theorem dX5_prefer_5 : decode cX5_prefer 5 = .ok (.aload_n 0, 1) := by decide +kernel
theorem dX5_prefer_6 : decode cX5_prefer 6 = .ok (.iload_n 1, 1) := by decide +kernel
theorem dX5_prefer_7 : decode cX5_prefer 7 = .ok (.invokevirtual 154, 3) := by decide +kernel
theorem dX5_prefer_10 : decode cX5_prefer 10 = .ok (.ifCond .ne 9, 3) := by decide +kernel
theorem dX5_prefer_13 : decode cX5_prefer 13 = .ok (.aload_n 0, 1) := by decide +kernel
theorem dX5_prefer_14 : decode cX5_prefer 14 = .ok (.iconst 1, 1) := by decide +kernel
theorem dX5_prefer_15 : decode cX5_prefer 15 = .ok (.invokevirtual 119, 3) := by decide +kernel
theorem dX5_prefer_18 : decode cX5_prefer 18 = .ok (.ireturn, 1) := by decide +kernel
theorem dX5_prefer_19 : decode cX5_prefer 19 = .ok (.aload_n 0, 1) := by decide +kernel
theorem dX5_prefer_20 : decode cX5_prefer 20 = .ok (.getfield 16, 3) := by decide +kernel
theorem dX5_prefer_23 : decode cX5_prefer 23 = .ok (.iload_n 1, 1) := by decide +kernel
theorem dX5_prefer_24 : decode cX5_prefer 24 = .ok (.invokevirtual 41, 3) := by decide +kernel
theorem dX5_prefer_27 : decode cX5_prefer 27 = .ok (.checkcast 27, 3) := by decide +kernel
theorem dX5_prefer_30 : decode cX5_prefer 30 = .ok (.astore_n 2, 1) := by decide +kernel
theorem dX5_prefer_31 : decode cX5_prefer 31 = .ok (.aload_n 2, 1) := by decide +kernel
theorem dX5_prefer_32 : decode cX5_prefer 32 = .ok (.getfield 34, 3) := by decide +kernel
theorem dX5_prefer_35 : decode cX5_prefer 35 = .ok (.iconst 1, 1) := by decide +kernel
theorem dX5_prefer_36 : decode cX5_prefer 36 = .ok (.if_icmp .eq 9, 3) := by decide +kernel
theorem dX5_prefer_39 : decode cX5_prefer 39 = .ok (.aload_n 0, 1) := by decide +kernel
theorem dX5_prefer_40 : decode cX5_prefer 40 = .ok (.iconst 2, 1) := by decide +kernel
theorem dX5_prefer_41 : decode cX5_prefer 41 = .ok (.invokevirtual 119, 3) := by decide +kernel
theorem dX5_prefer_44 : decode cX5_prefer 44 = .ok (.ireturn, 1) := by decide +kernel
theorem dX5_prefer_45 : decode cX5_prefer 45 = .ok (.aload_n 0, 1) := by decide +kernel
theorem dX5_prefer_46 : decode cX5_prefer 46 = .ok (.aload_n 2, 1) := by decide +kernel
theorem dX5_prefer_47 : decode cX5_prefer 47 = .ok (.getfield 49, 3) := by decide +kernel
theorem dX5_prefer_50 : decode cX5_prefer 50 = .ok (.aload_n 2, 1) := by decide +kernel
theorem dX5_prefer_51 : decode cX5_prefer 51 = .ok (.getfield 26, 3) := by decide +kernel
theorem dX5_prefer_54 : decode cX5_prefer 54 = .ok (.invokevirtual 169, 3) := by decide +kernel
theorem dX5_prefer_57 : decode cX5_prefer 57 = .ok (.istore_n 3, 1) := by decide +kernel
theorem dX5_prefer_58 : decode cX5_prefer 58 = .ok (.iload_n 3, 1) := by decide +kernel
theorem dX5_prefer_59 : decode cX5_prefer 59 = .ok (.iconst (-1), 1) := by decide +kernel
theorem dX5_prefer_60 : decode cX5_prefer 60 = .ok (.if_icmp .eq 18, 3) := by decide +kernel
theorem dX5_prefer_63 : decode cX5_prefer 63 = .ok (.aload_n 0, 1) := by decide +kernel
theorem dX5_prefer_64 : decode cX5_prefer 64 = .ok (.getfield 16, 3) := by decide +kernel
theorem dX5_prefer_67 : decode cX5_prefer 67 = .ok (.iload_n 3, 1) := by decide +kernel
theorem dX5_prefer_68 : decode cX5_prefer 68 = .ok (.invokevirtual 41, 3) := by decide +kernel
theorem dX5_prefer_71 : decode cX5_prefer 71 = .ok (.checkcast 27, 3) := by decide +kernel
theorem dX5_prefer_74 : decode cX5_prefer 74 = .ok (.iconst 1, 1) := by decide +kernel
theorem dX5_prefer_75 : decode cX5_prefer 75 = .ok (.putfield 34, 3) := by decide +kernel
theorem dX5_prefer_78 : decode cX5_prefer 78 = .ok (.aload_n 2, 1) := by decide +kernel
theorem dX5_prefer_79 : decode cX5_prefer 79 = .ok (.iconst 2, 1) := by decide +kernel
theorem dX5_prefer_80 : decode cX5_prefer 80 = .ok (.putfield 34, 3) := by decide +kernel
theorem dX5_prefer_83 : decode cX5_prefer 83 = .ok (.aload_n 0, 1) := by decide +kernel
theorem dX5_prefer_84 : decode cX5_prefer 84 = .ok (.invokevirtual 166, 3) := by decide +kernel
theorem dX5_prefer_87 : decode cX5_prefer 87 = .ok (.pop, 1) := by decide +kernel
theorem dX5_prefer_88 : decode cX5_prefer 88 = .ok (.iload_n 3, 1) := by decide +kernel
theorem dX5_prefer_89 : decode cX5_prefer 89 = .ok (.ireturn, 1) := by decide +kernel
theorem dX5_ban_0 : decode cX5_ban 0 = .ok (.aload_n 0, 1) := by decide +kernel
theorem dX5_ban_1 : decode cX5_ban 1 = .ok (.iconst 0, 1) := by decide +kernel
theorem dX5_ban_2 : decode cX5_ban 2 = .ok (.putfield 22, 3) := by decide +kernel
theorem dX5_ban_5 : decode cX5_ban 5 = .ok (.aload_n 0, 1) := by decide +kernel
theorem dX5_ban_6 : decode cX5_ban 6 = .ok (.iload_n 1, 1) := by decide +kernel
theorem dX5_ban_7 : decode cX5_ban 7 = .ok (.invokevirtual 154, 3) := by decide +kernel
theorem dX5_ban_10 : decode cX5_ban 10 = .ok (.ifCond .ne 9, 3) := by decide +kernel
theorem dX5_ban_13 : decode cX5_ban 13 = .ok (.aload_n 0, 1) := by decide +kernel
theorem dX5_ban_14 : decode cX5_ban 14 = .ok (.iconst 1, 1) := by decide +kernel
theorem dX5_ban_15 : decode cX5_ban 15 = .ok (.invokevirtual 119, 3) := by decide +kernel
theorem dX5_ban_18 : decode cX5_ban 18 = .ok (.ireturn, 1) := by decide +kernel
theorem dX5_ban_19 : decode cX5_ban 19 = .ok (.iload_n 2, 1) := by decide +kernel
theorem dX5_ban_20 : decode cX5_ban 20 = .ok (.iconst 0, 1) := by decide +kernel
theorem dX5_ban_21 : decode cX5_ban 21 = .ok (.bipush 30, 2) := by decide +kernel
theorem dX5_ban_23 : decode cX5_ban 23 = .ok (.invokestatic 112, 3) := by decide +kernel
theorem dX5_ban_26 : decode cX5_ban 26 = .ok (.ifCond .ne 9, 3) := by decide +kernel
theorem dX5_ban_29 : decode cX5_ban 29 = .ok (.aload_n 0, 1) := by decide +kernel
theorem dX5_ban_30 : decode cX5_ban 30 = .ok (.iconst 2, 1) := by decide +kernel
theorem dX5_ban_31 : decode cX5_ban 31 = .ok (.invokevirtual 119, 3) := by decide +kernel
theorem dX5_ban_34 : decode cX5_ban 34 = .ok (.ireturn, 1) := by decide +kernel
theorem dX5_ban_35 : decode cX5_ban 35 = .ok (.aload_n 0, 1) := by decide +kernel
theorem dX5_ban_36 : decode cX5_ban 36 = .ok (.getfield 16, 3) := by decide +kernel
theorem dX5_ban_39 : decode cX5_ban 39 = .ok (.iload_n 1, 1) := by decide +kernel
theorem dX5_ban_40 : decode cX5_ban 40 = .ok (.invokevirtual 41, 3) := by decide +kernel
theorem dX5_ban_43 : decode cX5_ban 43 = .ok (.checkcast 27, 3) := by decide +kernel
theorem dX5_ban_46 : decode cX5_ban 46 = .ok (.astore_n 3, 1) := by decide +kernel
theorem dX5_ban_47 : decode cX5_ban 47 = .ok (.aload_n 3, 1) := by decide +kernel
theorem dX5_ban_48 : decode cX5_ban 48 = .ok (.invokestatic 172, 3) := by decide +kernel
theorem dX5_ban_51 : decode cX5_ban 51 = .ok (.ifCond .ne 9, 3) := by decide +kernel
theorem dX5_ban_54 : decode cX5_ban 54 = .ok (.aload_n 0, 1) := by decide +kernel
theorem dX5_ban_55 : decode cX5_ban 55 = .ok (.iconst 3, 1) := by decide +kernel
theorem dX5_ban_56 : decode cX5_ban 56 = .ok (.invokevirtual 119, 3) := by decide +kernel
theorem dX5_ban_59 : decode cX5_ban 59 = .ok (.ireturn, 1) := by decide +kernel
theorem dX5_ban_60 : decode cX5_ban 60 = .ok (.aload_n 3, 1) := by decide +kernel
theorem dX5_ban_61 : decode cX5_ban 61 = .ok (.iconst 3, 1) := by decide +kernel
theorem dX5_ban_62 : decode cX5_ban 62 = .ok (.putfield 34, 3) := by decide +kernel
theorem dX5_ban_65 : decode cX5_ban 65 = .ok (.aload_n 3, 1) := by decide +kernel
theorem dX5_ban_66 : decode cX5_ban 66 = .ok (.aload_n 0, 1) := by decide +kernel
theorem dX5_ban_67 : decode cX5_ban 67 = .ok (.getfield 102, 3) := by decide +kernel
theorem dX5_ban_70 : decode cX5_ban 70 = .ok (.putfield 175, 3) := by decide +kernel
theorem dX5_ban_73 : decode cX5_ban 73 = .ok (.aload_n 3, 1) := by decide +kernel
theorem dX5_ban_74 : decode cX5_ban 74 = .ok (.iload_n 2, 1) := by decide +kernel
theorem dX5_ban_75 : decode cX5_ban 75 = .ok (.putfield 178, 3) := by decide +kernel
theorem dX5_ban_78 : decode cX5_ban 78 = .ok (.aload_n 0, 1) := by decide +kernel
theorem dX5_ban_79 : decode cX5_ban 79 = .ok (.invokevirtual 166, 3) := by decide +kernel
theorem dX5_ban_82 : decode cX5_ban 82 = .ok (.ireturn, 1) := by decide +kernel
theorem dX5_allow_0 : decode cX5_allow 0 = .ok (.aload_n 0, 1) := by decide +kernel
theorem dX5_allow_1 : decode cX5_allow 1 = .ok (.iconst 0, 1) := by decide +kernel
theorem dX5_allow_2 : decode cX5_allow 2 = .ok (.putfield 22, 3) := by decide +kernel
theorem dX5_allow_5 : decode cX5_allow 5 = .ok (.aload_n 0, 1) := by decide +kernel
theorem dX5_allow_6 : decode cX5_allow 6 = .ok (.iload_n 1, 1) := by decide +kernel
theorem dX5_allow_7 : decode cX5_allow 7 = .ok (.invokevirtual 154, 3) := by decide +kernel
theorem dX5_allow_10 : decode cX5_allow 10 = .ok (.ifCond .ne 9, 3) := by decide +kernel
theorem dX5_allow_13 : decode cX5_allow 13 = .ok (.aload_n 0, 1) := by decide +kernel
theorem dX5_allow_14 : decode cX5_allow 14 = .ok (.iconst 1, 1) := by decide +kernel
theorem dX5_allow_15 : decode cX5_allow 15 = .ok (.invokevirtual 119, 3) := by decide +kernel
theorem dX5_allow_18 : decode cX5_allow 18 = .ok (.ireturn, 1) := by decide +kernel
theorem dX5_allow_19 : decode cX5_allow 19 = .ok (.aload_n 0, 1) := by decide +kernel
theorem dX5_allow_20 : decode cX5_allow 20 = .ok (.getfield 16, 3) := by decide +kernel
theorem dX5_allow_23 : decode cX5_allow 23 = .ok (.iload_n 1, 1) := by decide +kernel
theorem dX5_allow_24 : decode cX5_allow 24 = .ok (.invokevirtual 41, 3) := by decide +kernel
theorem dX5_allow_27 : decode cX5_allow 27 = .ok (.checkcast 27, 3) := by decide +kernel
theorem dX5_allow_30 : decode cX5_allow 30 = .ok (.astore_n 2, 1) := by decide +kernel
theorem dX5_allow_31 : decode cX5_allow 31 = .ok (.aload_n 2, 1) := by decide +kernel
theorem dX5_allow_32 : decode cX5_allow 32 = .ok (.getfield 34, 3) := by decide +kernel
theorem dX5_allow_35 : decode cX5_allow 35 = .ok (.iconst 3, 1) := by decide +kernel
theorem dX5_allow_36 : decode cX5_allow 36 = .ok (.if_icmp .eq 9, 3) := by decide +kernel
theorem dX5_allow_39 : decode cX5_allow 39 = .ok (.aload_n 0, 1) := by decide +kernel
theorem dX5_allow_40 : decode cX5_allow 40 = .ok (.iconst 2, 1) := by decide +kernel
theorem dX5_allow_41 : decode cX5_allow 41 = .ok (.invokevirtual 119, 3) := by decide +kernel
theorem dX5_allow_44 : decode cX5_allow 44 = .ok (.ireturn, 1) := by decide +kernel
theorem dX5_allow_45 : decode cX5_allow 45 = .ok (.aload_n 0, 1) := by decide +kernel
theorem dX5_allow_46 : decode cX5_allow 46 = .ok (.getfield 102, 3) := by decide +kernel
theorem dX5_allow_49 : decode cX5_allow 49 = .ok (.aload_n 2, 1) := by decide +kernel
theorem dX5_allow_50 : decode cX5_allow 50 = .ok (.getfield 175, 3) := by decide +kernel
theorem dX5_allow_53 : decode cX5_allow 53 = .ok (.isub, 1) := by decide +kernel
theorem dX5_allow_54 : decode cX5_allow 54 = .ok (.istore_n 3, 1) := by decide +kernel
theorem dX5_allow_55 : decode cX5_allow 55 = .ok (.aload_n 2, 1) := by decide +kernel
theorem dX5_allow_56 : decode cX5_allow 56 = .ok (.iconst 1, 1) := by decide +kernel
theorem dX5_allow_57 : decode cX5_allow 57 = .ok (.putfield 34, 3) := by decide +kernel
theorem dX5_allow_60 : decode cX5_allow 60 = .ok (.aload_n 2, 1) := by decide +kernel
theorem dX5_allow_61 : decode cX5_allow 61 = .ok (.iconst (-1), 1) := by decide +kernel
theorem dX5_allow_62 : decode cX5_allow 62 = .ok (.putfield 175, 3) := by decide +kernel
theorem dX5_allow_65 : decode cX5_allow 65 = .ok (.aload_n 0, 1) := by decide +kernel
theorem dX5_allow_66 : decode cX5_allow 66 = .ok (.invokevirtual 166, 3) := by decide +kernel
theorem dX5_allow_69 : decode cX5_allow 69 = .ok (.pop, 1) := by decide +kernel
theorem dX5_allow_70 : decode cX5_allow 70 = .ok (.iload_n 3, 1) := by decide +kernel
theorem dX5_allow_71 : decode cX5_allow 71 = .ok (.ireturn, 1) := by decide +kernel
theorem dX5_ofTerm_0 : decode cX5_ofTerm 0 = .ok (.aload_n 0, 1) := by decide +kernel
theorem dX5_ofTerm_1 : decode cX5_ofTerm 1 = .ok (.iconst 0, 1) := by decide +kernel
theorem dX5_ofTerm_2 : decode cX5_ofTerm 2 = .ok (.putfield 22, 3) := by decide +kernel
theorem dX5_ofTerm_5 : decode cX5_ofTerm 5 = .ok (.aload_n 0, 1) := by decide +kernel
theorem dX5_ofTerm_6 : decode cX5_ofTerm 6 = .ok (.iload_n 1, 1) := by decide +kernel
theorem dX5_ofTerm_7 : decode cX5_ofTerm 7 = .ok (.invokevirtual 154, 3) := by decide +kernel
theorem dX5_ofTerm_10 : decode cX5_ofTerm 10 = .ok (.ifCond .ne 9, 3) := by decide +kernel
theorem dX5_ofTerm_13 : decode cX5_ofTerm 13 = .ok (.aload_n 0, 1) := by decide +kernel
theorem dX5_ofTerm_14 : decode cX5_ofTerm 14 = .ok (.iconst 1, 1) := by decide +kernel
theorem dX5_ofTerm_15 : decode cX5_ofTerm 15 = .ok (.invokevirtual 119, 3) := by decide +kernel
theorem dX5_ofTerm_18 : decode cX5_ofTerm 18 = .ok (.ireturn, 1) := by decide +kernel
theorem dX5_ofTerm_19 : decode cX5_ofTerm 19 = .ok (.iload_n 2, 1) := by decide +kernel
theorem dX5_ofTerm_20 : decode cX5_ofTerm 20 = .ok (.iconst 0, 1) := by decide +kernel
theorem dX5_ofTerm_21 : decode cX5_ofTerm 21 = .ok (.bipush 7, 2) := by decide +kernel
theorem dX5_ofTerm_23 : decode cX5_ofTerm 23 = .ok (.invokestatic 112, 3) := by decide +kernel
theorem dX5_ofTerm_26 : decode cX5_ofTerm 26 = .ok (.ifCond .eq 22, 3) := by decide +kernel
theorem dX5_ofTerm_29 : decode cX5_ofTerm 29 = .ok (.aload_n 0, 1) := by decide +kernel
theorem dX5_ofTerm_30 : decode cX5_ofTerm 30 = .ok (.aload_n 0, 1) := by decide +kernel
theorem dX5_ofTerm_31 : decode cX5_ofTerm 31 = .ok (.getfield 16, 3) := by decide +kernel
theorem dX5_ofTerm_34 : decode cX5_ofTerm 34 = .ok (.iload_n 1, 1) := by decide +kernel
theorem dX5_ofTerm_35 : decode cX5_ofTerm 35 = .ok (.invokevirtual 41, 3) := by decide +kernel
theorem dX5_ofTerm_38 : decode cX5_ofTerm 38 = .ok (.checkcast 27, 3) := by decide +kernel
theorem dX5_ofTerm_41 : decode cX5_ofTerm 41 = .ok (.iload_n 2, 1) := by decide +kernel
theorem dX5_ofTerm_42 : decode cX5_ofTerm 42 = .ok (.invokevirtual 184, 3) := by decide +kernel
theorem dX5_ofTerm_45 : decode cX5_ofTerm 45 = .ok (.goto 8, 3) := by decide +kernel
theorem dX5_ofTerm_48 : decode cX5_ofTerm 48 = .ok (.aload_n 0, 1) := by decide +kernel
theorem dX5_ofTerm_49 : decode cX5_ofTerm 49 = .ok (.iconst 2, 1) := by decide +kernel
theorem dX5_ofTerm_50 : decode cX5_ofTerm 50 = .ok (.invokevirtual 119, 3) := by decide +kernel
theorem dX5_ofTerm_53 : decode cX5_ofTerm 53 = .ok (.ireturn, 1) := by decide +kernel
theorem dX5_ofConcept_0 : decode cX5_ofConcept 0 = .ok (.aload_n 0, 1) := by decide +kernel
theorem dX5_ofConcept_1 : decode cX5_ofConcept 1 = .ok (.iconst 0, 1) := by decide +kernel
theorem dX5_ofConcept_2 : decode cX5_ofConcept 2 = .ok (.putfield 22, 3) := by decide +kernel
theorem dX5_ofConcept_5 : decode cX5_ofConcept 5 = .ok (.aload_n 0, 1) := by decide +kernel
theorem dX5_ofConcept_6 : decode cX5_ofConcept 6 = .ok (.iload_n 1, 1) := by decide +kernel
theorem dX5_ofConcept_7 : decode cX5_ofConcept 7 = .ok (.invokevirtual 130, 3) := by decide +kernel
theorem dX5_ofConcept_10 : decode cX5_ofConcept 10 = .ok (.ifCond .ne 9, 3) := by decide +kernel
theorem dX5_ofConcept_13 : decode cX5_ofConcept 13 = .ok (.aload_n 0, 1) := by decide +kernel
theorem dX5_ofConcept_14 : decode cX5_ofConcept 14 = .ok (.iconst 1, 1) := by decide +kernel
theorem dX5_ofConcept_15 : decode cX5_ofConcept 15 = .ok (.invokevirtual 119, 3) := by decide +kernel
theorem dX5_ofConcept_18 : decode cX5_ofConcept 18 = .ok (.ireturn, 1) := by decide +kernel
theorem dX5_ofConcept_19 : decode cX5_ofConcept 19 = .ok (.iload_n 2, 1) := by decide +kernel
theorem dX5_ofConcept_20 : decode cX5_ofConcept 20 = .ok (.iconst 0, 1) := by decide +kernel
theorem dX5_ofConcept_21 : decode cX5_ofConcept 21 = .ok (.bipush 6, 2) := by decide +kernel
theorem dX5_ofConcept_23 : decode cX5_ofConcept 23 = .ok (.invokestatic 112, 3) := by decide +kernel
theorem dX5_ofConcept_26 : decode cX5_ofConcept 26 = .ok (.ifCond .eq 12, 3) := by decide +kernel
theorem dX5_ofConcept_29 : decode cX5_ofConcept 29 = .ok (.aload_n 0, 1) := by decide +kernel
theorem dX5_ofConcept_30 : decode cX5_ofConcept 30 = .ok (.iload_n 1, 1) := by decide +kernel
theorem dX5_ofConcept_31 : decode cX5_ofConcept 31 = .ok (.iload_n 2, 1) := by decide +kernel
theorem dX5_ofConcept_32 : decode cX5_ofConcept 32 = .ok (.invokevirtual 195, 3) := by decide +kernel
theorem dX5_ofConcept_35 : decode cX5_ofConcept 35 = .ok (.goto 8, 3) := by decide +kernel
theorem dX5_ofConcept_38 : decode cX5_ofConcept 38 = .ok (.aload_n 0, 1) := by decide +kernel
theorem dX5_ofConcept_39 : decode cX5_ofConcept 39 = .ok (.iconst 2, 1) := by decide +kernel
theorem dX5_ofConcept_40 : decode cX5_ofConcept 40 = .ok (.invokevirtual 119, 3) := by decide +kernel
theorem dX5_ofConcept_43 : decode cX5_ofConcept 43 = .ok (.ireturn, 1) := by decide +kernel
theorem dX5_split_0 : decode cX5_split 0 = .ok (.aload_n 0, 1) := by decide +kernel
theorem dX5_split_1 : decode cX5_split 1 = .ok (.iconst 0, 1) := by decide +kernel
theorem dX5_split_2 : decode cX5_split 2 = .ok (.putfield 22, 3) := by decide +kernel
theorem dX5_split_5 : decode cX5_split 5 = .ok (.aload_n 0, 1) := by decide +kernel
theorem dX5_split_6 : decode cX5_split 6 = .ok (.iload_n 1, 1) := by decide +kernel
theorem dX5_split_7 : decode cX5_split 7 = .ok (.invokevirtual 130, 3) := by decide +kernel
theorem dX5_split_10 : decode cX5_split 10 = .ok (.ifCond .ne 9, 3) := by decide +kernel
theorem dX5_split_13 : decode cX5_split 13 = .ok (.aload_n 0, 1) := by decide +kernel
theorem dX5_split_14 : decode cX5_split 14 = .ok (.iconst 1, 1) := by decide +kernel
theorem dX5_split_15 : decode cX5_split 15 = .ok (.invokevirtual 119, 3) := by decide +kernel
theorem dX5_split_18 : decode cX5_split 18 = .ok (.ireturn, 1) := by decide +kernel
theorem dX5_split_19 : decode cX5_split 19 = .ok (.iconst 0, 1) := by decide +kernel
theorem dX5_split_20 : decode cX5_split 20 = .ok (.istore 4, 2) := by decide +kernel
theorem dX5_split_22 : decode cX5_split 22 = .ok (.aload_n 0, 1) := by decide +kernel
theorem dX5_split_23 : decode cX5_split 23 = .ok (.getfield 16, 3) := by decide +kernel
theorem dX5_split_26 : decode cX5_split 26 = .ok (.invokevirtual 136, 3) := by decide +kernel
theorem dX5_split_29 : decode cX5_split 29 = .ok (.astore 5, 2) := by decide +kernel
theorem dX5_split_31 : decode cX5_split 31 = .ok (.aload 5, 2) := by decide +kernel
theorem dX5_split_33 : decode cX5_split 33 = .ok (.invokeinterface 140 1, 5) := by decide +kernel
theorem dX5_split_38 : decode cX5_split 38 = .ok (.ifCond .eq 43, 3) := by decide +kernel
theorem dX5_split_41 : decode cX5_split 41 = .ok (.aload 5, 2) := by decide +kernel
theorem dX5_split_43 : decode cX5_split 43 = .ok (.invokeinterface 146 1, 5) := by decide +kernel
theorem dX5_split_48 : decode cX5_split 48 = .ok (.checkcast 27, 3) := by decide +kernel
theorem dX5_split_51 : decode cX5_split 51 = .ok (.astore 6, 2) := by decide +kernel
theorem dX5_split_53 : decode cX5_split 53 = .ok (.iload 4, 2) := by decide +kernel
theorem dX5_split_55 : decode cX5_split 55 = .ok (.aload 6, 2) := by decide +kernel
theorem dX5_split_57 : decode cX5_split 57 = .ok (.getfield 49, 3) := by decide +kernel
theorem dX5_split_60 : decode cX5_split 60 = .ok (.iload_n 1, 1) := by decide +kernel
theorem dX5_split_61 : decode cX5_split 61 = .ok (.if_icmp .ne 13, 3) := by decide +kernel
theorem dX5_split_64 : decode cX5_split 64 = .ok (.iconst 1, 1) := by decide +kernel
theorem dX5_split_65 : decode cX5_split 65 = .ok (.aload 6, 2) := by decide +kernel
theorem dX5_split_67 : decode cX5_split 67 = .ok (.getfield 84, 3) := by decide +kernel
theorem dX5_split_70 : decode cX5_split 70 = .ok (.ishl, 1) := by decide +kernel
theorem dX5_split_71 : decode cX5_split 71 = .ok (.goto 4, 3) := by decide +kernel
theorem dX5_split_74 : decode cX5_split 74 = .ok (.iconst 0, 1) := by decide +kernel
theorem dX5_split_75 : decode cX5_split 75 = .ok (.ior, 1) := by decide +kernel
theorem dX5_split_76 : decode cX5_split 76 = .ok (.istore 4, 2) := by decide +kernel
theorem dX5_split_78 : decode cX5_split 78 = .ok (.goto (-47), 3) := by decide +kernel
theorem dX5_split_81 : decode cX5_split 81 = .ok (.iload_n 2, 1) := by decide +kernel
theorem dX5_split_82 : decode cX5_split 82 = .ok (.iconst 1, 1) := by decide +kernel
theorem dX5_split_83 : decode cX5_split 83 = .ok (.if_icmp .lt 27, 3) := by decide +kernel
theorem dX5_split_86 : decode cX5_split 86 = .ok (.iload_n 2, 1) := by decide +kernel
theorem dX5_split_87 : decode cX5_split 87 = .ok (.iload 4, 2) := by decide +kernel
theorem dX5_split_89 : decode cX5_split 89 = .ok (.iconst (-1), 1) := by decide +kernel
theorem dX5_split_90 : decode cX5_split 90 = .ok (.ixor, 1) := by decide +kernel
theorem dX5_split_91 : decode cX5_split 91 = .ok (.iand, 1) := by decide +kernel
theorem dX5_split_92 : decode cX5_split 92 = .ok (.ifCond .ne 18, 3) := by decide +kernel
theorem dX5_split_95 : decode cX5_split 95 = .ok (.iload_n 2, 1) := by decide +kernel
theorem dX5_split_96 : decode cX5_split 96 = .ok (.iload 4, 2) := by decide +kernel
theorem dX5_split_98 : decode cX5_split 98 = .ok (.if_icmp .eq 12, 3) := by decide +kernel
theorem dX5_split_101 : decode cX5_split 101 = .ok (.iload_n 3, 1) := by decide +kernel
theorem dX5_split_102 : decode cX5_split 102 = .ok (.iconst 0, 1) := by decide +kernel
theorem dX5_split_103 : decode cX5_split 103 = .ok (.iconst 3, 1) := by decide +kernel
theorem dX5_split_104 : decode cX5_split 104 = .ok (.invokestatic 112, 3) := by decide +kernel
theorem dX5_split_107 : decode cX5_split 107 = .ok (.ifCond .ne 9, 3) := by decide +kernel
theorem dX5_split_110 : decode cX5_split 110 = .ok (.aload_n 0, 1) := by decide +kernel
theorem dX5_split_111 : decode cX5_split 111 = .ok (.iconst 2, 1) := by decide +kernel
theorem dX5_split_112 : decode cX5_split 112 = .ok (.invokevirtual 119, 3) := by decide +kernel
theorem dX5_split_115 : decode cX5_split 115 = .ok (.ireturn, 1) := by decide +kernel
theorem dX5_split_116 : decode cX5_split 116 = .ok (.aload_n 0, 1) := by decide +kernel
theorem dX5_split_117 : decode cX5_split 117 = .ok (.getfield 10, 3) := by decide +kernel
theorem dX5_split_120 : decode cX5_split 120 = .ok (.invokevirtual 37, 3) := by decide +kernel
theorem dX5_split_123 : decode cX5_split 123 = .ok (.bipush 12, 2) := by decide +kernel
theorem dX5_split_125 : decode cX5_split 125 = .ok (.if_icmp .ne 9, 3) := by decide +kernel
theorem dX5_split_128 : decode cX5_split 128 = .ok (.aload_n 0, 1) := by decide +kernel
theorem dX5_split_129 : decode cX5_split 129 = .ok (.iconst 3, 1) := by decide +kernel
theorem dX5_split_130 : decode cX5_split 130 = .ok (.invokevirtual 119, 3) := by decide +kernel
theorem dX5_split_133 : decode cX5_split 133 = .ok (.ireturn, 1) := by decide +kernel
theorem dX5_split_134 : decode cX5_split 134 = .ok (.aload_n 0, 1) := by decide +kernel
theorem dX5_split_135 : decode cX5_split 135 = .ok (.getfield 10, 3) := by decide +kernel
theorem dX5_split_138 : decode cX5_split 138 = .ok (.iload_n 3, 1) := by decide +kernel
theorem dX5_split_139 : decode cX5_split 139 = .ok (.invokestatic 122, 3) := by decide +kernel
theorem dX5_split_142 : decode cX5_split 142 = .ok (.invokevirtual 126, 3) := by decide +kernel
theorem dX5_split_145 : decode cX5_split 145 = .ok (.pop, 1) := by decide +kernel
theorem dX5_split_146 : decode cX5_split 146 = .ok (.aload_n 0, 1) := by decide +kernel
theorem dX5_split_147 : decode cX5_split 147 = .ok (.getfield 16, 3) := by decide +kernel
theorem dX5_split_150 : decode cX5_split 150 = .ok (.invokevirtual 136, 3) := by decide +kernel
theorem dX5_split_153 : decode cX5_split 153 = .ok (.astore 5, 2) := by decide +kernel
theorem dX5_split_155 : decode cX5_split 155 = .ok (.aload 5, 2) := by decide +kernel
theorem dX5_split_157 : decode cX5_split 157 = .ok (.invokeinterface 140 1, 5) := by decide +kernel
theorem dX5_split_162 : decode cX5_split 162 = .ok (.ifCond .eq 44, 3) := by decide +kernel
theorem dX5_split_165 : decode cX5_split 165 = .ok (.aload 5, 2) := by decide +kernel
theorem dX5_split_167 : decode cX5_split 167 = .ok (.invokeinterface 146 1, 5) := by decide +kernel
theorem dX5_split_172 : decode cX5_split 172 = .ok (.checkcast 27, 3) := by decide +kernel
theorem dX5_split_175 : decode cX5_split 175 = .ok (.astore 6, 2) := by decide +kernel
theorem dX5_split_177 : decode cX5_split 177 = .ok (.iload_n 2, 1) := by decide +kernel
theorem dX5_split_178 : decode cX5_split 178 = .ok (.aload 6, 2) := by decide +kernel
theorem dX5_split_180 : decode cX5_split 180 = .ok (.getfield 84, 3) := by decide +kernel
theorem dX5_split_183 : decode cX5_split 183 = .ok (.invokestatic 98, 3) := by decide +kernel
theorem dX5_split_186 : decode cX5_split 186 = .ok (.ifCond .eq 17, 3) := by decide +kernel
theorem dX5_split_189 : decode cX5_split 189 = .ok (.aload 6, 2) := by decide +kernel
theorem dX5_split_191 : decode cX5_split 191 = .ok (.aload_n 0, 1) := by decide +kernel
theorem dX5_split_192 : decode cX5_split 192 = .ok (.getfield 10, 3) := by decide +kernel
theorem dX5_split_195 : decode cX5_split 195 = .ok (.invokevirtual 37, 3) := by decide +kernel
theorem dX5_split_198 : decode cX5_split 198 = .ok (.iconst 1, 1) := by decide +kernel
theorem dX5_split_199 : decode cX5_split 199 = .ok (.isub, 1) := by decide +kernel
theorem dX5_split_200 : decode cX5_split 200 = .ok (.putfield 49, 3) := by decide +kernel
theorem dX5_split_203 : decode cX5_split 203 = .ok (.goto (-48), 3) := by decide +kernel
theorem dX5_split_206 : decode cX5_split 206 = .ok (.aload_n 0, 1) := by decide +kernel
theorem dX5_split_207 : decode cX5_split 207 = .ok (.invokevirtual 166, 3) := by decide +kernel
theorem dX5_split_210 : decode cX5_split 210 = .ok (.pop, 1) := by decide +kernel
theorem dX5_split_211 : decode cX5_split 211 = .ok (.aload_n 0, 1) := by decide +kernel
theorem dX5_split_212 : decode cX5_split 212 = .ok (.getfield 10, 3) := by decide +kernel
theorem dX5_split_215 : decode cX5_split 215 = .ok (.invokevirtual 37, 3) := by decide +kernel
theorem dX5_split_218 : decode cX5_split 218 = .ok (.iconst 1, 1) := by decide +kernel
theorem dX5_split_219 : decode cX5_split 219 = .ok (.isub, 1) := by decide +kernel
theorem dX5_split_220 : decode cX5_split 220 = .ok (.ireturn, 1) := by decide +kernel
