theorem dX0_init_0 : decode cX0_init 0 = .ok (.aload_n 0, 1) := by decide +kernel
theorem dX0_init_1 : decode cX0_init 1 = .ok (.invokespecial 3, 3) := by decide +kernel
theorem dX0_init_4 : decode cX0_init 4 = .ok (.aload_n 0, 1) := by decide +kernel
theorem dX0_init_5 : decode cX0_init 5 = .ok (.iconst 0, 1) := by decide +kernel
theorem dX0_init_6 : decode cX0_init 6 = .ok (.putfield 9, 3) := by decide +kernel
theorem dX0_init_9 : decode cX0_init 9 = .ok (.aload_n 0, 1) := by decide +kernel
theorem dX0_init_10 : decode cX0_init 10 = .ok (.iconst 0, 1) := by decide +kernel
theorem dX0_init_11 : decode cX0_init 11 = .ok (.putfield 15, 3) := by decide +kernel
theorem dX0_init_14 : decode cX0_init 14 = .ok (.aload_n 0, 1) := by decide +kernel
theorem dX0_init_15 : decode cX0_init 15 = .ok (.bipush 12, 2) := by decide +kernel
theorem dX0_init_17 : decode cX0_init 17 = .ok (.newarray .int, 2) := by decide +kernel
theorem dX0_init_19 : decode cX0_init 19 = .ok (.putfield 18, 3) := by decide +kernel
theorem dX0_init_22 : decode cX0_init 22 = .ok (.aload_n 0, 1) := by decide +kernel
theorem dX0_init_23 : decode cX0_init 23 = .ok (.bipush 24, 2) := by decide +kernel
theorem dX0_init_25 : decode cX0_init 25 = .ok (.newarray .int, 2) := by decide +kernel
theorem dX0_init_27 : decode cX0_init 27 = .ok (.putfield 22, 3) := by decide +kernel
theorem dX0_init_30 : decode cX0_init 30 = .ok (.aload_n 0, 1) := by decide +kernel
theorem dX0_init_31 : decode cX0_init 31 = .ok (.bipush 24, 2) := by decide +kernel
theorem dX0_init_33 : decode cX0_init 33 = .ok (.newarray .int, 2) := by decide +kernel
theorem dX0_init_35 : decode cX0_init 35 = .ok (.putfield 25, 3) := by decide +kernel
theorem dX0_init_38 : decode cX0_init 38 = .ok (.aload_n 0, 1) := by decide +kernel
theorem dX0_init_39 : decode cX0_init 39 = .ok (.bipush 24, 2) := by decide +kernel
theorem dX0_init_41 : decode cX0_init 41 = .ok (.newarray .int, 2) := by decide +kernel
theorem dX0_init_43 : decode cX0_init 43 = .ok (.putfield 28, 3) := by decide +kernel
theorem dX0_init_46 : decode cX0_init 46 = .ok (.aload_n 0, 1) := by decide +kernel
theorem dX0_init_47 : decode cX0_init 47 = .ok (.bipush 24, 2) := by decide +kernel
theorem dX0_init_49 : decode cX0_init 49 = .ok (.newarray .int, 2) := by decide +kernel
theorem dX0_init_51 : decode cX0_init 51 = .ok (.putfield 31, 3) := by decide +kernel
theorem dX0_init_54 : decode cX0_init 54 = .ok (.aload_n 0, 1) := by decide +kernel
theorem dX0_init_55 : decode cX0_init 55 = .ok (.bipush 24, 2) := by decide +kernel
theorem dX0_init_57 : decode cX0_init 57 = .ok (.newarray .int, 2) := by decide +kernel
theorem dX0_init_59 : decode cX0_init 59 = .ok (.putfield 34, 3) := by decide +kernel
theorem dX0_init_62 : decode cX0_init 62 = .ok (.aload_n 0, 1) := by decide +kernel
theorem dX0_init_63 : decode cX0_init 63 = .ok (.bipush 24, 2) := by decide +kernel
theorem dX0_init_65 : decode cX0_init 65 = .ok (.newarray .int, 2) := by decide +kernel
theorem dX0_init_67 : decode cX0_init 67 = .ok (.putfield 37, 3) := by decide +kernel
theorem dX0_init_70 : decode cX0_init 70 = .ok (.aload_n 0, 1) := by decide +kernel
theorem dX0_init_71 : decode cX0_init 71 = .ok (.bipush 24, 2) := by decide +kernel
theorem dX0_init_73 : decode cX0_init 73 = .ok (.newarray .int, 2) := by decide +kernel
theorem dX0_init_75 : decode cX0_init 75 = .ok (.putfield 40, 3) := by decide +kernel
theorem dX0_init_78 : decode cX0_init 78 = .ok (.aload_n 0, 1) := by decide +kernel
theorem dX0_init_79 : decode cX0_init 79 = .ok (.bipush 24, 2) := by decide +kernel
theorem dX0_init_81 : decode cX0_init 81 = .ok (.newarray .int, 2) := by decide +kernel
theorem dX0_init_83 : decode cX0_init 83 = .ok (.putfield 43, 3) := by decide +kernel
theorem dX0_init_86 : decode cX0_init 86 = .ok (.aload_n 0, 1) := by decide +kernel
theorem dX0_init_87 : decode cX0_init 87 = .ok (.iconst 3, 1) := by decide +kernel
theorem dX0_init_88 : decode cX0_init 88 = .ok (.bipush 20, 2) := by decide +kernel
theorem dX0_init_90 : decode cX0_init 90 = .ok (.multianewarray 46 2, 4) := by decide +kernel
theorem dX0_init_94 : decode cX0_init 94 = .ok (.putfield 48, 3) := by decide +kernel
theorem dX0_init_97 : decode cX0_init 97 = .ok (.return_, 1) := by decide +kernel
theorem dX0_isConcept_0 : decode cX0_isConcept 0 = .ok (.iload_n 1, 1) := by decide +kernel
theorem dX0_isConcept_1 : decode cX0_isConcept 1 = .ok (.ifCond .lt 15, 3) := by decide +kernel
theorem dX0_isConcept_4 : decode cX0_isConcept 4 = .ok (.iload_n 1, 1) := by decide +kernel
theorem dX0_isConcept_5 : decode cX0_isConcept 5 = .ok (.aload_n 0, 1) := by decide +kernel
theorem dX0_isConcept_6 : decode cX0_isConcept 6 = .ok (.getfield 9, 3) := by decide +kernel
theorem dX0_isConcept_9 : decode cX0_isConcept 9 = .ok (.if_icmp .ge 7, 3) := by decide +kernel
theorem dX0_isConcept_12 : decode cX0_isConcept 12 = .ok (.iconst 1, 1) := by decide +kernel
theorem dX0_isConcept_13 : decode cX0_isConcept 13 = .ok (.goto 4, 3) := by decide +kernel
theorem dX0_isConcept_16 : decode cX0_isConcept 16 = .ok (.iconst 0, 1) := by decide +kernel
theorem dX0_isConcept_17 : decode cX0_isConcept 17 = .ok (.ireturn, 1) := by decide +kernel
theorem dX0_isTerm_0 : decode cX0_isTerm 0 = .ok (.iload_n 1, 1) := by decide +kernel
theorem dX0_isTerm_1 : decode cX0_isTerm 1 = .ok (.ifCond .lt 15, 3) := by decide +kernel
theorem dX0_isTerm_4 : decode cX0_isTerm 4 = .ok (.iload_n 1, 1) := by decide +kernel
theorem dX0_isTerm_5 : decode cX0_isTerm 5 = .ok (.aload_n 0, 1) := by decide +kernel
theorem dX0_isTerm_6 : decode cX0_isTerm 6 = .ok (.getfield 15, 3) := by decide +kernel
theorem dX0_isTerm_9 : decode cX0_isTerm 9 = .ok (.if_icmp .ge 7, 3) := by decide +kernel
theorem dX0_isTerm_12 : decode cX0_isTerm 12 = .ok (.iconst 1, 1) := by decide +kernel
theorem dX0_isTerm_13 : decode cX0_isTerm 13 = .ok (.goto 4, 3) := by decide +kernel
theorem dX0_isTerm_16 : decode cX0_isTerm 16 = .ok (.iconst 0, 1) := by decide +kernel
theorem dX0_isTerm_17 : decode cX0_isTerm 17 = .ok (.ireturn, 1) := by decide +kernel
theorem dX0_addConcept_0 : decode cX0_addConcept 0 = .ok (.aload_n 0, 1) := by decide +kernel
theorem dX0_addConcept_1 : decode cX0_addConcept 1 = .ok (.getfield 9, 3) := by decide +kernel
theorem dX0_addConcept_4 : decode cX0_addConcept 4 = .ok (.istore_n 2, 1) := by decide +kernel
theorem dX0_addConcept_5 : decode cX0_addConcept 5 = .ok (.aload_n 0, 1) := by decide +kernel
theorem dX0_addConcept_6 : decode cX0_addConcept 6 = .ok (.getfield 18, 3) := by decide +kernel
theorem dX0_addConcept_9 : decode cX0_addConcept 9 = .ok (.iload_n 2, 1) := by decide +kernel
theorem dX0_addConcept_10 : decode cX0_addConcept 10 = .ok (.iload_n 1, 1) := by decide +kernel
theorem dX0_addConcept_11 : decode cX0_addConcept 11 = .ok (.iastore, 1) := by decide +kernel
theorem dX0_addConcept_12 : decode cX0_addConcept 12 = .ok (.aload_n 0, 1) := by decide +kernel
theorem dX0_addConcept_13 : decode cX0_addConcept 13 = .ok (.dup, 1) := by decide +kernel
theorem dX0_addConcept_14 : decode cX0_addConcept 14 = .ok (.getfield 9, 3) := by decide +kernel
theorem dX0_addConcept_17 : decode cX0_addConcept 17 = .ok (.iconst 1, 1) := by decide +kernel
theorem dX0_addConcept_18 : decode cX0_addConcept 18 = .ok (.iadd, 1) := by decide +kernel
theorem dX0_addConcept_19 : decode cX0_addConcept 19 = .ok (.putfield 9, 3) := by decide +kernel
theorem dX0_addConcept_22 : decode cX0_addConcept 22 = .ok (.iload_n 2, 1) := by decide +kernel
theorem dX0_addConcept_23 : decode cX0_addConcept 23 = .ok (.ireturn, 1) := by decide +kernel
theorem dX0_hasTerm_0 : decode cX0_hasTerm 0 = .ok (.iconst 0, 1) := by decide +kernel
theorem dX0_hasTerm_1 : decode cX0_hasTerm 1 = .ok (.istore 4, 2) := by decide +kernel
theorem dX0_hasTerm_3 : decode cX0_hasTerm 3 = .ok (.iload 4, 2) := by decide +kernel
theorem dX0_hasTerm_5 : decode cX0_hasTerm 5 = .ok (.aload_n 0, 1) := by decide +kernel
theorem dX0_hasTerm_6 : decode cX0_hasTerm 6 = .ok (.getfield 15, 3) := by decide +kernel
theorem dX0_hasTerm_9 : decode cX0_hasTerm 9 = .ok (.if_icmp .ge 44, 3) := by decide +kernel
theorem dX0_hasTerm_12 : decode cX0_hasTerm 12 = .ok (.aload_n 0, 1) := by decide +kernel
theorem dX0_hasTerm_13 : decode cX0_hasTerm 13 = .ok (.getfield 22, 3) := by decide +kernel
theorem dX0_hasTerm_16 : decode cX0_hasTerm 16 = .ok (.iload 4, 2) := by decide +kernel
theorem dX0_hasTerm_18 : decode cX0_hasTerm 18 = .ok (.iaload, 1) := by decide +kernel
theorem dX0_hasTerm_19 : decode cX0_hasTerm 19 = .ok (.iload_n 1, 1) := by decide +kernel
theorem dX0_hasTerm_20 : decode cX0_hasTerm 20 = .ok (.if_icmp .ne 27, 3) := by decide +kernel
theorem dX0_hasTerm_23 : decode cX0_hasTerm 23 = .ok (.aload_n 0, 1) := by decide +kernel
theorem dX0_hasTerm_24 : decode cX0_hasTerm 24 = .ok (.getfield 25, 3) := by decide +kernel
theorem dX0_hasTerm_27 : decode cX0_hasTerm 27 = .ok (.iload 4, 2) := by decide +kernel
theorem dX0_hasTerm_29 : decode cX0_hasTerm 29 = .ok (.iaload, 1) := by decide +kernel
theorem dX0_hasTerm_30 : decode cX0_hasTerm 30 = .ok (.iload_n 2, 1) := by decide +kernel
theorem dX0_hasTerm_31 : decode cX0_hasTerm 31 = .ok (.if_icmp .ne 16, 3) := by decide +kernel
theorem dX0_hasTerm_34 : decode cX0_hasTerm 34 = .ok (.aload_n 0, 1) := by decide +kernel
theorem dX0_hasTerm_35 : decode cX0_hasTerm 35 = .ok (.getfield 28, 3) := by decide +kernel
theorem dX0_hasTerm_38 : decode cX0_hasTerm 38 = .ok (.iload 4, 2) := by decide +kernel
theorem dX0_hasTerm_40 : decode cX0_hasTerm 40 = .ok (.iaload, 1) := by decide +kernel
theorem dX0_hasTerm_41 : decode cX0_hasTerm 41 = .ok (.iload_n 3, 1) := by decide +kernel
theorem dX0_hasTerm_42 : decode cX0_hasTerm 42 = .ok (.if_icmp .ne 5, 3) := by decide +kernel
theorem dX0_hasTerm_45 : decode cX0_hasTerm 45 = .ok (.iconst 1, 1) := by decide +kernel
theorem dX0_hasTerm_46 : decode cX0_hasTerm 46 = .ok (.ireturn, 1) := by decide +kernel
theorem dX0_hasTerm_47 : decode cX0_hasTerm 47 = .ok (.iinc 4 1, 3) := by decide +kernel
theorem dX0_hasTerm_50 : decode cX0_hasTerm 50 = .ok (.goto (-47), 3) := by decide +kernel
theorem dX0_hasTerm_53 : decode cX0_hasTerm 53 = .ok (.iconst 0, 1) := by decide +kernel
theorem dX0_hasTerm_54 : decode cX0_hasTerm 54 = .ok (.ireturn, 1) := by decide +kernel
theorem dX0_addTerm_0 : decode cX0_addTerm 0 = .ok (.aload_n 0, 1) := by decide +kernel
theorem dX0_addTerm_1 : decode cX0_addTerm 1 = .ok (.getfield 15, 3) := by decide +kernel
theorem dX0_addTerm_4 : decode cX0_addTerm 4 = .ok (.istore 4, 2) := by decide +kernel
theorem dX0_addTerm_6 : decode cX0_addTerm 6 = .ok (.aload_n 0, 1) := by decide +kernel
theorem dX0_addTerm_7 : decode cX0_addTerm 7 = .ok (.getfield 22, 3) := by decide +kernel
theorem dX0_addTerm_10 : decode cX0_addTerm 10 = .ok (.iload 4, 2) := by decide +kernel
theorem dX0_addTerm_12 : decode cX0_addTerm 12 = .ok (.iload_n 1, 1) := by decide +kernel
theorem dX0_addTerm_13 : decode cX0_addTerm 13 = .ok (.iastore, 1) := by decide +kernel
theorem dX0_addTerm_14 : decode cX0_addTerm 14 = .ok (.aload_n 0, 1) := by decide +kernel
theorem dX0_addTerm_15 : decode cX0_addTerm 15 = .ok (.getfield 25, 3) := by decide +kernel
theorem dX0_addTerm_18 : decode cX0_addTerm 18 = .ok (.iload 4, 2) := by decide +kernel
theorem dX0_addTerm_20 : decode cX0_addTerm 20 = .ok (.iload_n 2, 1) := by decide +kernel
theorem dX0_addTerm_21 : decode cX0_addTerm 21 = .ok (.iastore, 1) := by decide +kernel
theorem dX0_addTerm_22 : decode cX0_addTerm 22 = .ok (.aload_n 0, 1) := by decide +kernel
theorem dX0_addTerm_23 : decode cX0_addTerm 23 = .ok (.getfield 28, 3) := by decide +kernel
theorem dX0_addTerm_26 : decode cX0_addTerm 26 = .ok (.iload 4, 2) := by decide +kernel
theorem dX0_addTerm_28 : decode cX0_addTerm 28 = .ok (.iload_n 3, 1) := by decide +kernel
theorem dX0_addTerm_29 : decode cX0_addTerm 29 = .ok (.iastore, 1) := by decide +kernel
theorem dX0_addTerm_30 : decode cX0_addTerm 30 = .ok (.aload_n 0, 1) := by decide +kernel
theorem dX0_addTerm_31 : decode cX0_addTerm 31 = .ok (.getfield 31, 3) := by decide +kernel
theorem dX0_addTerm_34 : decode cX0_addTerm 34 = .ok (.iload 4, 2) := by decide +kernel
theorem dX0_addTerm_36 : decode cX0_addTerm 36 = .ok (.iconst 0, 1) := by decide +kernel
theorem dX0_addTerm_37 : decode cX0_addTerm 37 = .ok (.iastore, 1) := by decide +kernel
theorem dX0_addTerm_38 : decode cX0_addTerm 38 = .ok (.aload_n 0, 1) := by decide +kernel
theorem dX0_addTerm_39 : decode cX0_addTerm 39 = .ok (.dup, 1) := by decide +kernel
theorem dX0_addTerm_40 : decode cX0_addTerm 40 = .ok (.getfield 15, 3) := by decide +kernel
theorem dX0_addTerm_43 : decode cX0_addTerm 43 = .ok (.iconst 1, 1) := by decide +kernel
theorem dX0_addTerm_44 : decode cX0_addTerm 44 = .ok (.iadd, 1) := by decide +kernel
theorem dX0_addTerm_45 : decode cX0_addTerm 45 = .ok (.putfield 15, 3) := by decide +kernel
theorem dX0_addTerm_48 : decode cX0_addTerm 48 = .ok (.iload 4, 2) := by decide +kernel
theorem dX0_addTerm_50 : decode cX0_addTerm 50 = .ok (.ireturn, 1) := by decide +kernel
theorem dX0_hasVoted_0 : decode cX0_hasVoted 0 = .ok (.aload_n 0, 1) := by decide +kernel
theorem dX0_hasVoted_1 : decode cX0_hasVoted 1 = .ok (.getfield 34, 3) := by decide +kernel
theorem dX0_hasVoted_4 : decode cX0_hasVoted 4 = .ok (.iload_n 1, 1) := by decide +kernel
theorem dX0_hasVoted_5 : decode cX0_hasVoted 5 = .ok (.iaload, 1) := by decide +kernel
theorem dX0_hasVoted_6 : decode cX0_hasVoted 6 = .ok (.aload_n 0, 1) := by decide +kernel
theorem dX0_hasVoted_7 : decode cX0_hasVoted 7 = .ok (.getfield 37, 3) := by decide +kernel
theorem dX0_hasVoted_10 : decode cX0_hasVoted 10 = .ok (.iload_n 1, 1) := by decide +kernel
theorem dX0_hasVoted_11 : decode cX0_hasVoted 11 = .ok (.iaload, 1) := by decide +kernel
theorem dX0_hasVoted_12 : decode cX0_hasVoted 12 = .ok (.ior, 1) := by decide +kernel
theorem dX0_hasVoted_13 : decode cX0_hasVoted 13 = .ok (.iload_n 2, 1) := by decide +kernel
theorem dX0_hasVoted_14 : decode cX0_hasVoted 14 = .ok (.invokestatic 51, 3) := by decide +kernel
theorem dX0_hasVoted_17 : decode cX0_hasVoted 17 = .ok (.ireturn, 1) := by decide +kernel
theorem dX0_addVote_0 : decode cX0_addVote 0 = .ok (.iload_n 3, 1) := by decide +kernel
theorem dX0_addVote_1 : decode cX0_addVote 1 = .ok (.ifCond .eq 10, 3) := by decide +kernel
theorem dX0_addVote_4 : decode cX0_addVote 4 = .ok (.aload_n 0, 1) := by decide +kernel
theorem dX0_addVote_5 : decode cX0_addVote 5 = .ok (.getfield 34, 3) := by decide +kernel
theorem dX0_addVote_8 : decode cX0_addVote 8 = .ok (.goto 7, 3) := by decide +kernel
theorem dX0_addVote_11 : decode cX0_addVote 11 = .ok (.aload_n 0, 1) := by decide +kernel
theorem dX0_addVote_12 : decode cX0_addVote 12 = .ok (.getfield 37, 3) := by decide +kernel
theorem dX0_addVote_15 : decode cX0_addVote 15 = .ok (.astore 4, 2) := by decide +kernel
theorem dX0_addVote_17 : decode cX0_addVote 17 = .ok (.aload 4, 2) := by decide +kernel
theorem dX0_addVote_19 : decode cX0_addVote 19 = .ok (.iload_n 1, 1) := by decide +kernel
theorem dX0_addVote_20 : decode cX0_addVote 20 = .ok (.dup2, 1) := by decide +kernel
theorem dX0_addVote_21 : decode cX0_addVote 21 = .ok (.iaload, 1) := by decide +kernel
theorem dX0_addVote_22 : decode cX0_addVote 22 = .ok (.iconst 1, 1) := by decide +kernel
theorem dX0_addVote_23 : decode cX0_addVote 23 = .ok (.iload_n 2, 1) := by decide +kernel
theorem dX0_addVote_24 : decode cX0_addVote 24 = .ok (.ishl, 1) := by decide +kernel
theorem dX0_addVote_25 : decode cX0_addVote 25 = .ok (.ior, 1) := by decide +kernel
theorem dX0_addVote_26 : decode cX0_addVote 26 = .ok (.iastore, 1) := by decide +kernel
theorem dX0_addVote_27 : decode cX0_addVote 27 = .ok (.aload_n 0, 1) := by decide +kernel
theorem dX0_addVote_28 : decode cX0_addVote 28 = .ok (.getfield 34, 3) := by decide +kernel
theorem dX0_addVote_31 : decode cX0_addVote 31 = .ok (.iload_n 1, 1) := by decide +kernel
theorem dX0_addVote_32 : decode cX0_addVote 32 = .ok (.iaload, 1) := by decide +kernel
theorem dX0_addVote_33 : decode cX0_addVote 33 = .ok (.invokestatic 55, 3) := by decide +kernel
theorem dX0_addVote_36 : decode cX0_addVote 36 = .ok (.iconst 3, 1) := by decide +kernel
theorem dX0_addVote_37 : decode cX0_addVote 37 = .ok (.if_icmp .lt 30, 3) := by decide +kernel
theorem dX0_addVote_40 : decode cX0_addVote 40 = .ok (.aload_n 0, 1) := by decide +kernel
theorem dX0_addVote_41 : decode cX0_addVote 41 = .ok (.getfield 31, 3) := by decide +kernel
theorem dX0_addVote_44 : decode cX0_addVote 44 = .ok (.iload_n 1, 1) := by decide +kernel
theorem dX0_addVote_45 : decode cX0_addVote 45 = .ok (.iconst 1, 1) := by decide +kernel
theorem dX0_addVote_46 : decode cX0_addVote 46 = .ok (.iastore, 1) := by decide +kernel
theorem dX0_addVote_47 : decode cX0_addVote 47 = .ok (.aload_n 0, 1) := by decide +kernel
theorem dX0_addVote_48 : decode cX0_addVote 48 = .ok (.iload_n 1, 1) := by decide +kernel
theorem dX0_addVote_49 : decode cX0_addVote 49 = .ok (.aload_n 0, 1) := by decide +kernel
theorem dX0_addVote_50 : decode cX0_addVote 50 = .ok (.getfield 25, 3) := by decide +kernel
theorem dX0_addVote_53 : decode cX0_addVote 53 = .ok (.iload_n 1, 1) := by decide +kernel
theorem dX0_addVote_54 : decode cX0_addVote 54 = .ok (.iaload, 1) := by decide +kernel
theorem dX0_addVote_55 : decode cX0_addVote 55 = .ok (.aload_n 0, 1) := by decide +kernel
theorem dX0_addVote_56 : decode cX0_addVote 56 = .ok (.getfield 28, 3) := by decide +kernel
theorem dX0_addVote_59 : decode cX0_addVote 59 = .ok (.iload_n 1, 1) := by decide +kernel
theorem dX0_addVote_60 : decode cX0_addVote 60 = .ok (.iaload, 1) := by decide +kernel
theorem dX0_addVote_61 : decode cX0_addVote 61 = .ok (.invokevirtual 61, 3) := by decide +kernel
theorem dX0_addVote_64 : decode cX0_addVote 64 = .ok (.goto 30, 3) := by decide +kernel
theorem dX0_addVote_67 : decode cX0_addVote 67 = .ok (.aload_n 0, 1) := by decide +kernel
theorem dX0_addVote_68 : decode cX0_addVote 68 = .ok (.getfield 37, 3) := by decide +kernel
theorem dX0_addVote_71 : decode cX0_addVote 71 = .ok (.iload_n 1, 1) := by decide +kernel
theorem dX0_addVote_72 : decode cX0_addVote 72 = .ok (.iaload, 1) := by decide +kernel
theorem dX0_addVote_73 : decode cX0_addVote 73 = .ok (.invokestatic 55, 3) := by decide +kernel
theorem dX0_addVote_76 : decode cX0_addVote 76 = .ok (.iconst 3, 1) := by decide +kernel
theorem dX0_addVote_77 : decode cX0_addVote 77 = .ok (.if_icmp .lt 17, 3) := by decide +kernel
theorem dX0_addVote_80 : decode cX0_addVote 80 = .ok (.aload_n 0, 1) := by decide +kernel
theorem dX0_addVote_81 : decode cX0_addVote 81 = .ok (.getfield 34, 3) := by decide +kernel
theorem dX0_addVote_84 : decode cX0_addVote 84 = .ok (.iload_n 1, 1) := by decide +kernel
theorem dX0_addVote_85 : decode cX0_addVote 85 = .ok (.iconst 0, 1) := by decide +kernel
theorem dX0_addVote_86 : decode cX0_addVote 86 = .ok (.iastore, 1) := by decide +kernel
theorem dX0_addVote_87 : decode cX0_addVote 87 = .ok (.aload_n 0, 1) := by decide +kernel
theorem dX0_addVote_88 : decode cX0_addVote 88 = .ok (.getfield 37, 3) := by decide +kernel
theorem dX0_addVote_91 : decode cX0_addVote 91 = .ok (.iload_n 1, 1) := by decide +kernel
theorem dX0_addVote_92 : decode cX0_addVote 92 = .ok (.iconst 0, 1) := by decide +kernel
theorem dX0_addVote_93 : decode cX0_addVote 93 = .ok (.iastore, 1) := by decide +kernel
theorem dX0_addVote_94 : decode cX0_addVote 94 = .ok (.aload_n 0, 1) := by decide +kernel
theorem dX0_addVote_95 : decode cX0_addVote 95 = .ok (.getfield 31, 3) := by decide +kernel
theorem dX0_addVote_98 : decode cX0_addVote 98 = .ok (.iload_n 1, 1) := by decide +kernel
theorem dX0_addVote_99 : decode cX0_addVote 99 = .ok (.iaload, 1) := by decide +kernel
theorem dX0_addVote_100 : decode cX0_addVote 100 = .ok (.ireturn, 1) := by decide +kernel
theorem dX0_isStem_0 : decode cX0_isStem 0 = .ok (.iload_n 0, 1) := by decide +kernel
theorem dX0_isStem_1 : decode cX0_isStem 1 = .ok (.ifCond .lt 22, 3) := by decide +kernel
theorem dX0_isStem_4 : decode cX0_isStem 4 = .ok (.iload_n 0, 1) := by decide +kernel
theorem dX0_isStem_5 : decode cX0_isStem 5 = .ok (.iconst 3, 1) := by decide +kernel
theorem dX0_isStem_6 : decode cX0_isStem 6 = .ok (.if_icmp .ge 17, 3) := by decide +kernel
theorem dX0_isStem_9 : decode cX0_isStem 9 = .ok (.iload_n 1, 1) := by decide +kernel
theorem dX0_isStem_10 : decode cX0_isStem 10 = .ok (.ifCond .lt 13, 3) := by decide +kernel
theorem dX0_isStem_13 : decode cX0_isStem 13 = .ok (.iload_n 1, 1) := by decide +kernel
theorem dX0_isStem_14 : decode cX0_isStem 14 = .ok (.bipush 20, 2) := by decide +kernel
theorem dX0_isStem_16 : decode cX0_isStem 16 = .ok (.if_icmp .ge 7, 3) := by decide +kernel
theorem dX0_isStem_19 : decode cX0_isStem 19 = .ok (.iconst 1, 1) := by decide +kernel
theorem dX0_isStem_20 : decode cX0_isStem 20 = .ok (.goto 4, 3) := by decide +kernel
theorem dX0_isStem_23 : decode cX0_isStem 23 = .ok (.iconst 0, 1) := by decide +kernel
theorem dX0_isStem_24 : decode cX0_isStem 24 = .ok (.ireturn, 1) := by decide +kernel
theorem dX0_makeKnown_0 : decode cX0_makeKnown 0 = .ok (.iload_n 2, 1) := by decide +kernel
theorem dX0_makeKnown_1 : decode cX0_makeKnown 1 = .ok (.iload_n 3, 1) := by decide +kernel
theorem dX0_makeKnown_2 : decode cX0_makeKnown 2 = .ok (.invokestatic 65, 3) := by decide +kernel
theorem dX0_makeKnown_5 : decode cX0_makeKnown 5 = .ok (.ifCond .eq 17, 3) := by decide +kernel
theorem dX0_makeKnown_8 : decode cX0_makeKnown 8 = .ok (.aload_n 0, 1) := by decide +kernel
theorem dX0_makeKnown_9 : decode cX0_makeKnown 9 = .ok (.getfield 48, 3) := by decide +kernel
theorem dX0_makeKnown_12 : decode cX0_makeKnown 12 = .ok (.iload_n 2, 1) := by decide +kernel
theorem dX0_makeKnown_13 : decode cX0_makeKnown 13 = .ok (.aaload, 1) := by decide +kernel
theorem dX0_makeKnown_14 : decode cX0_makeKnown 14 = .ok (.iload_n 3, 1) := by decide +kernel
theorem dX0_makeKnown_15 : decode cX0_makeKnown 15 = .ok (.dup2, 1) := by decide +kernel
theorem dX0_makeKnown_16 : decode cX0_makeKnown 16 = .ok (.iaload, 1) := by decide +kernel
theorem dX0_makeKnown_17 : decode cX0_makeKnown 17 = .ok (.iconst 1, 1) := by decide +kernel
theorem dX0_makeKnown_18 : decode cX0_makeKnown 18 = .ok (.iload_n 1, 1) := by decide +kernel
theorem dX0_makeKnown_19 : decode cX0_makeKnown 19 = .ok (.ishl, 1) := by decide +kernel
theorem dX0_makeKnown_20 : decode cX0_makeKnown 20 = .ok (.ior, 1) := by decide +kernel
theorem dX0_makeKnown_21 : decode cX0_makeKnown 21 = .ok (.iastore, 1) := by decide +kernel
theorem dX0_makeKnown_22 : decode cX0_makeKnown 22 = .ok (.return_, 1) := by decide +kernel
theorem dX0_raise_0 : decode cX0_raise 0 = .ok (.aload_n 0, 1) := by decide +kernel
theorem dX0_raise_1 : decode cX0_raise 1 = .ok (.aload_n 0, 1) := by decide +kernel
theorem dX0_raise_2 : decode cX0_raise 2 = .ok (.getfield 22, 3) := by decide +kernel
theorem dX0_raise_5 : decode cX0_raise 5 = .ok (.iload_n 1, 1) := by decide +kernel
theorem dX0_raise_6 : decode cX0_raise 6 = .ok (.iaload, 1) := by decide +kernel
theorem dX0_raise_7 : decode cX0_raise 7 = .ok (.aload_n 0, 1) := by decide +kernel
theorem dX0_raise_8 : decode cX0_raise 8 = .ok (.getfield 25, 3) := by decide +kernel
theorem dX0_raise_11 : decode cX0_raise 11 = .ok (.iload_n 1, 1) := by decide +kernel
theorem dX0_raise_12 : decode cX0_raise 12 = .ok (.iaload, 1) := by decide +kernel
theorem dX0_raise_13 : decode cX0_raise 13 = .ok (.invokevirtual 68, 3) := by decide +kernel
theorem dX0_raise_16 : decode cX0_raise 16 = .ok (.istore_n 2, 1) := by decide +kernel
theorem dX0_raise_17 : decode cX0_raise 17 = .ok (.aload_n 0, 1) := by decide +kernel
theorem dX0_raise_18 : decode cX0_raise 18 = .ok (.iload_n 2, 1) := by decide +kernel
theorem dX0_raise_19 : decode cX0_raise 19 = .ok (.invokevirtual 72, 3) := by decide +kernel
theorem dX0_raise_22 : decode cX0_raise 22 = .ok (.ifCond .eq 10, 3) := by decide +kernel
theorem dX0_raise_25 : decode cX0_raise 25 = .ok (.aload_n 0, 1) := by decide +kernel
theorem dX0_raise_26 : decode cX0_raise 26 = .ok (.getfield 31, 3) := by decide +kernel
theorem dX0_raise_29 : decode cX0_raise 29 = .ok (.iload_n 2, 1) := by decide +kernel
theorem dX0_raise_30 : decode cX0_raise 30 = .ok (.iconst 1, 1) := by decide +kernel
theorem dX0_raise_31 : decode cX0_raise 31 = .ok (.iastore, 1) := by decide +kernel
theorem dX0_raise_32 : decode cX0_raise 32 = .ok (.aload_n 0, 1) := by decide +kernel
theorem dX0_raise_33 : decode cX0_raise 33 = .ok (.getfield 31, 3) := by decide +kernel
theorem dX0_raise_36 : decode cX0_raise 36 = .ok (.iload_n 1, 1) := by decide +kernel
theorem dX0_raise_37 : decode cX0_raise 37 = .ok (.iconst 2, 1) := by decide +kernel
theorem dX0_raise_38 : decode cX0_raise 38 = .ok (.iastore, 1) := by decide +kernel
theorem dX0_raise_39 : decode cX0_raise 39 = .ok (.iload_n 2, 1) := by decide +kernel
theorem dX0_raise_40 : decode cX0_raise 40 = .ok (.ireturn, 1) := by decide +kernel
theorem dX0_preferredOf_0 : decode cX0_preferredOf 0 = .ok (.iconst 0, 1) := by decide +kernel
theorem dX0_preferredOf_1 : decode cX0_preferredOf 1 = .ok (.istore_n 3, 1) := by decide +kernel
theorem dX0_preferredOf_2 : decode cX0_preferredOf 2 = .ok (.iload_n 3, 1) := by decide +kernel
theorem dX0_preferredOf_3 : decode cX0_preferredOf 3 = .ok (.aload_n 0, 1) := by decide +kernel
theorem dX0_preferredOf_4 : decode cX0_preferredOf 4 = .ok (.getfield 15, 3) := by decide +kernel
theorem dX0_preferredOf_7 : decode cX0_preferredOf 7 = .ok (.if_icmp .ge 41, 3) := by decide +kernel
theorem dX0_preferredOf_10 : decode cX0_preferredOf 10 = .ok (.aload_n 0, 1) := by decide +kernel
theorem dX0_preferredOf_11 : decode cX0_preferredOf 11 = .ok (.getfield 22, 3) := by decide +kernel
theorem dX0_preferredOf_14 : decode cX0_preferredOf 14 = .ok (.iload_n 3, 1) := by decide +kernel
theorem dX0_preferredOf_15 : decode cX0_preferredOf 15 = .ok (.iaload, 1) := by decide +kernel
theorem dX0_preferredOf_16 : decode cX0_preferredOf 16 = .ok (.iload_n 1, 1) := by decide +kernel
theorem dX0_preferredOf_17 : decode cX0_preferredOf 17 = .ok (.if_icmp .ne 25, 3) := by decide +kernel
theorem dX0_preferredOf_20 : decode cX0_preferredOf 20 = .ok (.aload_n 0, 1) := by decide +kernel
theorem dX0_preferredOf_21 : decode cX0_preferredOf 21 = .ok (.getfield 25, 3) := by decide +kernel
theorem dX0_preferredOf_24 : decode cX0_preferredOf 24 = .ok (.iload_n 3, 1) := by decide +kernel
theorem dX0_preferredOf_25 : decode cX0_preferredOf 25 = .ok (.iaload, 1) := by decide +kernel
theorem dX0_preferredOf_26 : decode cX0_preferredOf 26 = .ok (.iload_n 2, 1) := by decide +kernel
theorem dX0_preferredOf_27 : decode cX0_preferredOf 27 = .ok (.if_icmp .ne 15, 3) := by decide +kernel
theorem dX0_preferredOf_30 : decode cX0_preferredOf 30 = .ok (.aload_n 0, 1) := by decide +kernel
theorem dX0_preferredOf_31 : decode cX0_preferredOf 31 = .ok (.getfield 31, 3) := by decide +kernel
theorem dX0_preferredOf_34 : decode cX0_preferredOf 34 = .ok (.iload_n 3, 1) := by decide +kernel
theorem dX0_preferredOf_35 : decode cX0_preferredOf 35 = .ok (.iaload, 1) := by decide +kernel
theorem dX0_preferredOf_36 : decode cX0_preferredOf 36 = .ok (.iconst 2, 1) := by decide +kernel
theorem dX0_preferredOf_37 : decode cX0_preferredOf 37 = .ok (.if_icmp .ne 5, 3) := by decide +kernel
theorem dX0_preferredOf_40 : decode cX0_preferredOf 40 = .ok (.iload_n 3, 1) := by decide +kernel
theorem dX0_preferredOf_41 : decode cX0_preferredOf 41 = .ok (.ireturn, 1) := by decide +kernel
theorem dX0_preferredOf_42 : decode cX0_preferredOf 42 = .ok (.iinc 3 1, 3) := by decide +kernel
theorem dX0_preferredOf_45 : decode cX0_preferredOf 45 = .ok (.goto (-43), 3) := by decide +kernel
theorem dX0_preferredOf_48 : decode cX0_preferredOf 48 = .ok (.iconst (-1), 1) := by decide +kernel
theorem dX0_preferredOf_49 : decode cX0_preferredOf 49 = .ok (.ireturn, 1) := by decide +kernel
theorem dX0_canBeBanned_0 : decode cX0_canBeBanned 0 = .ok (.aload_n 0, 1) := by decide +kernel
theorem dX0_canBeBanned_1 : decode cX0_canBeBanned 1 = .ok (.getfield 31, 3) := by decide +kernel
theorem dX0_canBeBanned_4 : decode cX0_canBeBanned 4 = .ok (.iload_n 1, 1) := by decide +kernel
theorem dX0_canBeBanned_5 : decode cX0_canBeBanned 5 = .ok (.iaload, 1) := by decide +kernel
theorem dX0_canBeBanned_6 : decode cX0_canBeBanned 6 = .ok (.iconst 1, 1) := by decide +kernel
theorem dX0_canBeBanned_7 : decode cX0_canBeBanned 7 = .ok (.if_icmp .eq 13, 3) := by decide +kernel
theorem dX0_canBeBanned_10 : decode cX0_canBeBanned 10 = .ok (.aload_n 0, 1) := by decide +kernel
theorem dX0_canBeBanned_11 : decode cX0_canBeBanned 11 = .ok (.getfield 31, 3) := by decide +kernel
theorem dX0_canBeBanned_14 : decode cX0_canBeBanned 14 = .ok (.iload_n 1, 1) := by decide +kernel
theorem dX0_canBeBanned_15 : decode cX0_canBeBanned 15 = .ok (.iaload, 1) := by decide +kernel
theorem dX0_canBeBanned_16 : decode cX0_canBeBanned 16 = .ok (.iconst 2, 1) := by decide +kernel
theorem dX0_canBeBanned_17 : decode cX0_canBeBanned 17 = .ok (.if_icmp .ne 7, 3) := by decide +kernel
theorem dX0_canBeBanned_20 : decode cX0_canBeBanned 20 = .ok (.iconst 1, 1) := by decide +kernel
theorem dX0_canBeBanned_21 : decode cX0_canBeBanned 21 = .ok (.goto 4, 3) := by decide +kernel
theorem dX0_canBeBanned_24 : decode cX0_canBeBanned 24 = .ok (.iconst 0, 1) := by decide +kernel
theorem dX0_canBeBanned_25 : decode cX0_canBeBanned 25 = .ok (.ireturn, 1) := by decide +kernel
theorem dX0_forbid_0 : decode cX0_forbid 0 = .ok (.aload_n 0, 1) := by decide +kernel
theorem dX0_forbid_1 : decode cX0_forbid 1 = .ok (.getfield 31, 3) := by decide +kernel
theorem dX0_forbid_4 : decode cX0_forbid 4 = .ok (.iload_n 1, 1) := by decide +kernel
theorem dX0_forbid_5 : decode cX0_forbid 5 = .ok (.iconst 3, 1) := by decide +kernel
theorem dX0_forbid_6 : decode cX0_forbid 6 = .ok (.iastore, 1) := by decide +kernel
theorem dX0_forbid_7 : decode cX0_forbid 7 = .ok (.aload_n 0, 1) := by decide +kernel
theorem dX0_forbid_8 : decode cX0_forbid 8 = .ok (.getfield 40, 3) := by decide +kernel
theorem dX0_forbid_11 : decode cX0_forbid 11 = .ok (.iload_n 1, 1) := by decide +kernel
theorem dX0_forbid_12 : decode cX0_forbid 12 = .ok (.iload_n 2, 1) := by decide +kernel
theorem dX0_forbid_13 : decode cX0_forbid 13 = .ok (.iastore, 1) := by decide +kernel
theorem dX0_forbid_14 : decode cX0_forbid 14 = .ok (.aload_n 0, 1) := by decide +kernel
theorem dX0_forbid_15 : decode cX0_forbid 15 = .ok (.getfield 43, 3) := by decide +kernel
theorem dX0_forbid_18 : decode cX0_forbid 18 = .ok (.iload_n 1, 1) := by decide +kernel
theorem dX0_forbid_19 : decode cX0_forbid 19 = .ok (.iload_n 3, 1) := by decide +kernel
theorem dX0_forbid_20 : decode cX0_forbid 20 = .ok (.iastore, 1) := by decide +kernel
theorem dX0_forbid_21 : decode cX0_forbid 21 = .ok (.return_, 1) := by decide +kernel
theorem dX0_permit_0 : decode cX0_permit 0 = .ok (.aload_n 0, 1) := by decide +kernel
theorem dX0_permit_1 : decode cX0_permit 1 = .ok (.getfield 31, 3) := by decide +kernel
theorem dX0_permit_4 : decode cX0_permit 4 = .ok (.iload_n 1, 1) := by decide +kernel
theorem dX0_permit_5 : decode cX0_permit 5 = .ok (.iconst 1, 1) := by decide +kernel
theorem dX0_permit_6 : decode cX0_permit 6 = .ok (.iastore, 1) := by decide +kernel
theorem dX0_permit_7 : decode cX0_permit 7 = .ok (.iload_n 2, 1) := by decide +kernel
theorem dX0_permit_8 : decode cX0_permit 8 = .ok (.aload_n 0, 1) := by decide +kernel
theorem dX0_permit_9 : decode cX0_permit 9 = .ok (.getfield 40, 3) := by decide +kernel
theorem dX0_permit_12 : decode cX0_permit 12 = .ok (.iload_n 1, 1) := by decide +kernel
theorem dX0_permit_13 : decode cX0_permit 13 = .ok (.iaload, 1) := by decide +kernel
theorem dX0_permit_14 : decode cX0_permit 14 = .ok (.isub, 1) := by decide +kernel
theorem dX0_permit_15 : decode cX0_permit 15 = .ok (.ireturn, 1) := by decide +kernel
theorem dX0_overdueOn_0 : decode cX0_overdueOn 0 = .ok (.iconst 0, 1) := by decide +kernel
theorem dX0_overdueOn_1 : decode cX0_overdueOn 1 = .ok (.istore_n 2, 1) := by decide +kernel
theorem dX0_overdueOn_2 : decode cX0_overdueOn 2 = .ok (.iconst 0, 1) := by decide +kernel
theorem dX0_overdueOn_3 : decode cX0_overdueOn 3 = .ok (.istore_n 3, 1) := by decide +kernel
theorem dX0_overdueOn_4 : decode cX0_overdueOn 4 = .ok (.iload_n 3, 1) := by decide +kernel
theorem dX0_overdueOn_5 : decode cX0_overdueOn 5 = .ok (.aload_n 0, 1) := by decide +kernel
theorem dX0_overdueOn_6 : decode cX0_overdueOn 6 = .ok (.getfield 15, 3) := by decide +kernel
theorem dX0_overdueOn_9 : decode cX0_overdueOn 9 = .ok (.if_icmp .ge 42, 3) := by decide +kernel
theorem dX0_overdueOn_12 : decode cX0_overdueOn 12 = .ok (.aload_n 0, 1) := by decide +kernel
theorem dX0_overdueOn_13 : decode cX0_overdueOn 13 = .ok (.getfield 31, 3) := by decide +kernel
theorem dX0_overdueOn_16 : decode cX0_overdueOn 16 = .ok (.iload_n 3, 1) := by decide +kernel
theorem dX0_overdueOn_17 : decode cX0_overdueOn 17 = .ok (.iaload, 1) := by decide +kernel
theorem dX0_overdueOn_18 : decode cX0_overdueOn 18 = .ok (.iconst 3, 1) := by decide +kernel
theorem dX0_overdueOn_19 : decode cX0_overdueOn 19 = .ok (.if_icmp .ne 26, 3) := by decide +kernel
theorem dX0_overdueOn_22 : decode cX0_overdueOn 22 = .ok (.iload_n 1, 1) := by decide +kernel
theorem dX0_overdueOn_23 : decode cX0_overdueOn 23 = .ok (.aload_n 0, 1) := by decide +kernel
theorem dX0_overdueOn_24 : decode cX0_overdueOn 24 = .ok (.getfield 40, 3) := by decide +kernel
theorem dX0_overdueOn_27 : decode cX0_overdueOn 27 = .ok (.iload_n 3, 1) := by decide +kernel
theorem dX0_overdueOn_28 : decode cX0_overdueOn 28 = .ok (.iaload, 1) := by decide +kernel
theorem dX0_overdueOn_29 : decode cX0_overdueOn 29 = .ok (.aload_n 0, 1) := by decide +kernel
theorem dX0_overdueOn_30 : decode cX0_overdueOn 30 = .ok (.getfield 43, 3) := by decide +kernel
theorem dX0_overdueOn_33 : decode cX0_overdueOn 33 = .ok (.iload_n 3, 1) := by decide +kernel
theorem dX0_overdueOn_34 : decode cX0_overdueOn 34 = .ok (.iaload, 1) := by decide +kernel
theorem dX0_overdueOn_35 : decode cX0_overdueOn 35 = .ok (.iadd, 1) := by decide +kernel
theorem dX0_overdueOn_36 : decode cX0_overdueOn 36 = .ok (.if_icmp .lt 9, 3) := by decide +kernel
theorem dX0_overdueOn_39 : decode cX0_overdueOn 39 = .ok (.iload_n 2, 1) := by decide +kernel
theorem dX0_overdueOn_40 : decode cX0_overdueOn 40 = .ok (.iconst 1, 1) := by decide +kernel
theorem dX0_overdueOn_41 : decode cX0_overdueOn 41 = .ok (.iload_n 3, 1) := by decide +kernel
theorem dX0_overdueOn_42 : decode cX0_overdueOn 42 = .ok (.ishl, 1) := by decide +kernel
theorem dX0_overdueOn_43 : decode cX0_overdueOn 43 = .ok (.ior, 1) := by decide +kernel
theorem dX0_overdueOn_44 : decode cX0_overdueOn 44 = .ok (.istore_n 2, 1) := by decide +kernel
theorem dX0_overdueOn_45 : decode cX0_overdueOn 45 = .ok (.iinc 3 1, 3) := by decide +kernel
theorem dX0_overdueOn_48 : decode cX0_overdueOn 48 = .ok (.goto (-44), 3) := by decide +kernel
theorem dX0_overdueOn_51 : decode cX0_overdueOn 51 = .ok (.iload_n 2, 1) := by decide +kernel
theorem dX0_overdueOn_52 : decode cX0_overdueOn 52 = .ok (.ireturn, 1) := by decide +kernel
theorem dX0_termsOf_0 : decode cX0_termsOf 0 = .ok (.iconst 0, 1) := by decide +kernel
theorem dX0_termsOf_1 : decode cX0_termsOf 1 = .ok (.istore_n 2, 1) := by decide +kernel
theorem dX0_termsOf_2 : decode cX0_termsOf 2 = .ok (.iconst 0, 1) := by decide +kernel
theorem dX0_termsOf_3 : decode cX0_termsOf 3 = .ok (.istore_n 3, 1) := by decide +kernel
theorem dX0_termsOf_4 : decode cX0_termsOf 4 = .ok (.iload_n 3, 1) := by decide +kernel
theorem dX0_termsOf_5 : decode cX0_termsOf 5 = .ok (.aload_n 0, 1) := by decide +kernel
theorem dX0_termsOf_6 : decode cX0_termsOf 6 = .ok (.getfield 15, 3) := by decide +kernel
theorem dX0_termsOf_9 : decode cX0_termsOf 9 = .ok (.if_icmp .ge 25, 3) := by decide +kernel
theorem dX0_termsOf_12 : decode cX0_termsOf 12 = .ok (.aload_n 0, 1) := by decide +kernel
theorem dX0_termsOf_13 : decode cX0_termsOf 13 = .ok (.getfield 22, 3) := by decide +kernel
theorem dX0_termsOf_16 : decode cX0_termsOf 16 = .ok (.iload_n 3, 1) := by decide +kernel
theorem dX0_termsOf_17 : decode cX0_termsOf 17 = .ok (.iaload, 1) := by decide +kernel
theorem dX0_termsOf_18 : decode cX0_termsOf 18 = .ok (.iload_n 1, 1) := by decide +kernel
theorem dX0_termsOf_19 : decode cX0_termsOf 19 = .ok (.if_icmp .ne 9, 3) := by decide +kernel
theorem dX0_termsOf_22 : decode cX0_termsOf 22 = .ok (.iload_n 2, 1) := by decide +kernel
theorem dX0_termsOf_23 : decode cX0_termsOf 23 = .ok (.iconst 1, 1) := by decide +kernel
theorem dX0_termsOf_24 : decode cX0_termsOf 24 = .ok (.iload_n 3, 1) := by decide +kernel
theorem dX0_termsOf_25 : decode cX0_termsOf 25 = .ok (.ishl, 1) := by decide +kernel
theorem dX0_termsOf_26 : decode cX0_termsOf 26 = .ok (.ior, 1) := by decide +kernel
theorem dX0_termsOf_27 : decode cX0_termsOf 27 = .ok (.istore_n 2, 1) := by decide +kernel
theorem dX0_termsOf_28 : decode cX0_termsOf 28 = .ok (.iinc 3 1, 3) := by decide +kernel
theorem dX0_termsOf_31 : decode cX0_termsOf 31 = .ok (.goto (-27), 3) := by decide +kernel
theorem dX0_termsOf_34 : decode cX0_termsOf 34 = .ok (.iload_n 2, 1) := by decide +kernel
theorem dX0_termsOf_35 : decode cX0_termsOf 35 = .ok (.ireturn, 1) := by decide +kernel
theorem dX0_move_0 : decode cX0_move 0 = .ok (.iconst 0, 1) := by decide +kernel
theorem dX0_move_1 : decode cX0_move 1 = .ok (.istore_n 3, 1) := by decide +kernel
theorem dX0_move_2 : decode cX0_move 2 = .ok (.iload_n 3, 1) := by decide +kernel
theorem dX0_move_3 : decode cX0_move 3 = .ok (.aload_n 0, 1) := by decide +kernel
theorem dX0_move_4 : decode cX0_move 4 = .ok (.getfield 15, 3) := by decide +kernel
theorem dX0_move_7 : decode cX0_move 7 = .ok (.if_icmp .ge 24, 3) := by decide +kernel
theorem dX0_move_10 : decode cX0_move 10 = .ok (.iload_n 1, 1) := by decide +kernel
theorem dX0_move_11 : decode cX0_move 11 = .ok (.iload_n 3, 1) := by decide +kernel
theorem dX0_move_12 : decode cX0_move 12 = .ok (.invokestatic 51, 3) := by decide +kernel
theorem dX0_move_15 : decode cX0_move 15 = .ok (.ifCond .eq 10, 3) := by decide +kernel
theorem dX0_move_18 : decode cX0_move 18 = .ok (.aload_n 0, 1) := by decide +kernel
theorem dX0_move_19 : decode cX0_move 19 = .ok (.getfield 22, 3) := by decide +kernel
theorem dX0_move_22 : decode cX0_move 22 = .ok (.iload_n 3, 1) := by decide +kernel
theorem dX0_move_23 : decode cX0_move 23 = .ok (.iload_n 2, 1) := by decide +kernel
theorem dX0_move_24 : decode cX0_move 24 = .ok (.iastore, 1) := by decide +kernel
theorem dX0_move_25 : decode cX0_move 25 = .ok (.iinc 3 1, 3) := by decide +kernel
theorem dX0_move_28 : decode cX0_move 28 = .ok (.goto (-26), 3) := by decide +kernel
theorem dX0_move_31 : decode cX0_move 31 = .ok (.return_, 1) := by decide +kernel
theorem dX0_canBeJoined_0 : decode cX0_canBeJoined 0 = .ok (.iconst 0, 1) := by decide +kernel
theorem dX0_canBeJoined_1 : decode cX0_canBeJoined 1 = .ok (.istore_n 3, 1) := by decide +kernel
theorem dX0_canBeJoined_2 : decode cX0_canBeJoined 2 = .ok (.iload_n 3, 1) := by decide +kernel
theorem dX0_canBeJoined_3 : decode cX0_canBeJoined 3 = .ok (.aload_n 0, 1) := by decide +kernel
theorem dX0_canBeJoined_4 : decode cX0_canBeJoined 4 = .ok (.getfield 15, 3) := by decide +kernel
theorem dX0_canBeJoined_7 : decode cX0_canBeJoined 7 = .ok (.if_icmp .ge 41, 3) := by decide +kernel
theorem dX0_canBeJoined_10 : decode cX0_canBeJoined 10 = .ok (.aload_n 0, 1) := by decide +kernel
theorem dX0_canBeJoined_11 : decode cX0_canBeJoined 11 = .ok (.getfield 22, 3) := by decide +kernel
theorem dX0_canBeJoined_14 : decode cX0_canBeJoined 14 = .ok (.iload_n 3, 1) := by decide +kernel
theorem dX0_canBeJoined_15 : decode cX0_canBeJoined 15 = .ok (.iaload, 1) := by decide +kernel
theorem dX0_canBeJoined_16 : decode cX0_canBeJoined 16 = .ok (.iload_n 1, 1) := by decide +kernel
theorem dX0_canBeJoined_17 : decode cX0_canBeJoined 17 = .ok (.if_icmp .ne 25, 3) := by decide +kernel
theorem dX0_canBeJoined_20 : decode cX0_canBeJoined 20 = .ok (.aload_n 0, 1) := by decide +kernel
theorem dX0_canBeJoined_21 : decode cX0_canBeJoined 21 = .ok (.iload_n 2, 1) := by decide +kernel
theorem dX0_canBeJoined_22 : decode cX0_canBeJoined 22 = .ok (.aload_n 0, 1) := by decide +kernel
theorem dX0_canBeJoined_23 : decode cX0_canBeJoined 23 = .ok (.getfield 25, 3) := by decide +kernel
theorem dX0_canBeJoined_26 : decode cX0_canBeJoined 26 = .ok (.iload_n 3, 1) := by decide +kernel
theorem dX0_canBeJoined_27 : decode cX0_canBeJoined 27 = .ok (.iaload, 1) := by decide +kernel
theorem dX0_canBeJoined_28 : decode cX0_canBeJoined 28 = .ok (.aload_n 0, 1) := by decide +kernel
theorem dX0_canBeJoined_29 : decode cX0_canBeJoined 29 = .ok (.getfield 28, 3) := by decide +kernel
theorem dX0_canBeJoined_32 : decode cX0_canBeJoined 32 = .ok (.iload_n 3, 1) := by decide +kernel
theorem dX0_canBeJoined_33 : decode cX0_canBeJoined 33 = .ok (.iaload, 1) := by decide +kernel
theorem dX0_canBeJoined_34 : decode cX0_canBeJoined 34 = .ok (.invokevirtual 76, 3) := by decide +kernel
theorem dX0_canBeJoined_37 : decode cX0_canBeJoined 37 = .ok (.ifCond .eq 5, 3) := by decide +kernel
theorem dX0_canBeJoined_40 : decode cX0_canBeJoined 40 = .ok (.iconst 0, 1) := by decide +kernel
theorem dX0_canBeJoined_41 : decode cX0_canBeJoined 41 = .ok (.ireturn, 1) := by decide +kernel
theorem dX0_canBeJoined_42 : decode cX0_canBeJoined 42 = .ok (.iinc 3 1, 3) := by decide +kernel
theorem dX0_canBeJoined_45 : decode cX0_canBeJoined 45 = .ok (.goto (-43), 3) := by decide +kernel
theorem dX0_canBeJoined_48 : decode cX0_canBeJoined 48 = .ok (.iconst 1, 1) := by decide +kernel
theorem dX0_canBeJoined_49 : decode cX0_canBeJoined 49 = .ok (.ireturn, 1) := by decide +kernel
theorem dX0_unite_0 : decode cX0_unite 0 = .ok (.iconst 0, 1) := by decide +kernel
theorem dX0_unite_1 : decode cX0_unite 1 = .ok (.istore_n 3, 1) := by decide +kernel
theorem dX0_unite_2 : decode cX0_unite 2 = .ok (.iload_n 3, 1) := by decide +kernel
theorem dX0_unite_3 : decode cX0_unite 3 = .ok (.iconst 3, 1) := by decide +kernel
theorem dX0_unite_4 : decode cX0_unite 4 = .ok (.if_icmp .ge 56, 3) := by decide +kernel
theorem dX0_unite_7 : decode cX0_unite 7 = .ok (.aload_n 0, 1) := by decide +kernel
theorem dX0_unite_8 : decode cX0_unite 8 = .ok (.iload_n 1, 1) := by decide +kernel
theorem dX0_unite_9 : decode cX0_unite 9 = .ok (.iload_n 3, 1) := by decide +kernel
theorem dX0_unite_10 : decode cX0_unite 10 = .ok (.invokevirtual 68, 3) := by decide +kernel
theorem dX0_unite_13 : decode cX0_unite 13 = .ok (.istore 4, 2) := by decide +kernel
theorem dX0_unite_15 : decode cX0_unite 15 = .ok (.aload_n 0, 1) := by decide +kernel
theorem dX0_unite_16 : decode cX0_unite 16 = .ok (.iload_n 2, 1) := by decide +kernel
theorem dX0_unite_17 : decode cX0_unite 17 = .ok (.iload_n 3, 1) := by decide +kernel
theorem dX0_unite_18 : decode cX0_unite 18 = .ok (.invokevirtual 68, 3) := by decide +kernel
theorem dX0_unite_21 : decode cX0_unite 21 = .ok (.istore 5, 2) := by decide +kernel
theorem dX0_unite_23 : decode cX0_unite 23 = .ok (.aload_n 0, 1) := by decide +kernel
theorem dX0_unite_24 : decode cX0_unite 24 = .ok (.iload 4, 2) := by decide +kernel
theorem dX0_unite_26 : decode cX0_unite 26 = .ok (.invokevirtual 72, 3) := by decide +kernel
theorem dX0_unite_29 : decode cX0_unite 29 = .ok (.ifCond .eq 25, 3) := by decide +kernel
theorem dX0_unite_32 : decode cX0_unite 32 = .ok (.aload_n 0, 1) := by decide +kernel
theorem dX0_unite_33 : decode cX0_unite 33 = .ok (.iload 5, 2) := by decide +kernel
theorem dX0_unite_35 : decode cX0_unite 35 = .ok (.invokevirtual 72, 3) := by decide +kernel
theorem dX0_unite_38 : decode cX0_unite 38 = .ok (.ifCond .eq 16, 3) := by decide +kernel
theorem dX0_unite_41 : decode cX0_unite 41 = .ok (.aload_n 0, 1) := by decide +kernel
theorem dX0_unite_42 : decode cX0_unite 42 = .ok (.getfield 31, 3) := by decide +kernel
theorem dX0_unite_45 : decode cX0_unite 45 = .ok (.iload 4, 2) := by decide +kernel
theorem dX0_unite_47 : decode cX0_unite 47 = .ok (.iload 5, 2) := by decide +kernel
theorem dX0_unite_49 : decode cX0_unite 49 = .ok (.invokestatic 80, 3) := by decide +kernel
theorem dX0_unite_52 : decode cX0_unite 52 = .ok (.iconst 1, 1) := by decide +kernel
theorem dX0_unite_53 : decode cX0_unite 53 = .ok (.iastore, 1) := by decide +kernel
theorem dX0_unite_54 : decode cX0_unite 54 = .ok (.iinc 3 1, 3) := by decide +kernel
theorem dX0_unite_57 : decode cX0_unite 57 = .ok (.goto (-55), 3) := by decide +kernel
theorem dX0_unite_60 : decode cX0_unite 60 = .ok (.aload_n 0, 1) := by decide +kernel
theorem dX0_unite_61 : decode cX0_unite 61 = .ok (.aload_n 0, 1) := by decide +kernel
theorem dX0_unite_62 : decode cX0_unite 62 = .ok (.iload_n 2, 1) := by decide +kernel
theorem dX0_unite_63 : decode cX0_unite 63 = .ok (.invokevirtual 85, 3) := by decide +kernel
theorem dX0_unite_66 : decode cX0_unite 66 = .ok (.iload_n 1, 1) := by decide +kernel
theorem dX0_unite_67 : decode cX0_unite 67 = .ok (.invokevirtual 88, 3) := by decide +kernel
theorem dX0_unite_70 : decode cX0_unite 70 = .ok (.return_, 1) := by decide +kernel
theorem dX0_conceptsWithTerms_0 : decode cX0_conceptsWithTerms 0 = .ok (.iconst 0, 1) := by decide +kernel
theorem dX0_conceptsWithTerms_1 : decode cX0_conceptsWithTerms 1 = .ok (.istore_n 1, 1) := by decide +kernel
theorem dX0_conceptsWithTerms_2 : decode cX0_conceptsWithTerms 2 = .ok (.iconst 0, 1) := by decide +kernel
theorem dX0_conceptsWithTerms_3 : decode cX0_conceptsWithTerms 3 = .ok (.istore_n 2, 1) := by decide +kernel
theorem dX0_conceptsWithTerms_4 : decode cX0_conceptsWithTerms 4 = .ok (.iload_n 2, 1) := by decide +kernel
theorem dX0_conceptsWithTerms_5 : decode cX0_conceptsWithTerms 5 = .ok (.aload_n 0, 1) := by decide +kernel
theorem dX0_conceptsWithTerms_6 : decode cX0_conceptsWithTerms 6 = .ok (.getfield 9, 3) := by decide +kernel
theorem dX0_conceptsWithTerms_9 : decode cX0_conceptsWithTerms 9 = .ok (.if_icmp .ge 20, 3) := by decide +kernel
theorem dX0_conceptsWithTerms_12 : decode cX0_conceptsWithTerms 12 = .ok (.aload_n 0, 1) := by decide +kernel
theorem dX0_conceptsWithTerms_13 : decode cX0_conceptsWithTerms 13 = .ok (.iload_n 2, 1) := by decide +kernel
theorem dX0_conceptsWithTerms_14 : decode cX0_conceptsWithTerms 14 = .ok (.invokevirtual 85, 3) := by decide +kernel
theorem dX0_conceptsWithTerms_17 : decode cX0_conceptsWithTerms 17 = .ok (.ifCond .eq 6, 3) := by decide +kernel
theorem dX0_conceptsWithTerms_20 : decode cX0_conceptsWithTerms 20 = .ok (.iinc 1 1, 3) := by decide +kernel
theorem dX0_conceptsWithTerms_23 : decode cX0_conceptsWithTerms 23 = .ok (.iinc 2 1, 3) := by decide +kernel
theorem dX0_conceptsWithTerms_26 : decode cX0_conceptsWithTerms 26 = .ok (.goto (-22), 3) := by decide +kernel
theorem dX0_conceptsWithTerms_29 : decode cX0_conceptsWithTerms 29 = .ok (.iload_n 1, 1) := by decide +kernel
theorem dX0_conceptsWithTerms_30 : decode cX0_conceptsWithTerms 30 = .ok (.ireturn, 1) := by decide +kernel
theorem dX0_termsInState_0 : decode cX0_termsInState 0 = .ok (.iconst 0, 1) := by decide +kernel
theorem dX0_termsInState_1 : decode cX0_termsInState 1 = .ok (.istore_n 2, 1) := by decide +kernel
theorem dX0_termsInState_2 : decode cX0_termsInState 2 = .ok (.iconst 0, 1) := by decide +kernel
theorem dX0_termsInState_3 : decode cX0_termsInState 3 = .ok (.istore_n 3, 1) := by decide +kernel
theorem dX0_termsInState_4 : decode cX0_termsInState 4 = .ok (.iload_n 3, 1) := by decide +kernel
theorem dX0_termsInState_5 : decode cX0_termsInState 5 = .ok (.aload_n 0, 1) := by decide +kernel
theorem dX0_termsInState_6 : decode cX0_termsInState 6 = .ok (.getfield 15, 3) := by decide +kernel
theorem dX0_termsInState_9 : decode cX0_termsInState 9 = .ok (.if_icmp .ge 22, 3) := by decide +kernel
theorem dX0_termsInState_12 : decode cX0_termsInState 12 = .ok (.aload_n 0, 1) := by decide +kernel
theorem dX0_termsInState_13 : decode cX0_termsInState 13 = .ok (.getfield 31, 3) := by decide +kernel
theorem dX0_termsInState_16 : decode cX0_termsInState 16 = .ok (.iload_n 3, 1) := by decide +kernel
theorem dX0_termsInState_17 : decode cX0_termsInState 17 = .ok (.iaload, 1) := by decide +kernel
theorem dX0_termsInState_18 : decode cX0_termsInState 18 = .ok (.iload_n 1, 1) := by decide +kernel
theorem dX0_termsInState_19 : decode cX0_termsInState 19 = .ok (.if_icmp .ne 6, 3) := by decide +kernel
theorem dX0_termsInState_22 : decode cX0_termsInState 22 = .ok (.iinc 2 1, 3) := by decide +kernel
theorem dX0_termsInState_25 : decode cX0_termsInState 25 = .ok (.iinc 3 1, 3) := by decide +kernel
theorem dX0_termsInState_28 : decode cX0_termsInState 28 = .ok (.goto (-24), 3) := by decide +kernel
theorem dX0_termsInState_31 : decode cX0_termsInState 31 = .ok (.iload_n 2, 1) := by decide +kernel
theorem dX0_termsInState_32 : decode cX0_termsInState 32 = .ok (.ireturn, 1) := by decide +kernel
theorem dX0_canBe_0 : decode cX0_canBe 0 = .ok (.iload_n 2, 1) := by decide +kernel
theorem dX0_canBe_1 : decode cX0_canBe 1 = .ok (.iconst 4, 1) := by decide +kernel
theorem dX0_canBe_2 : decode cX0_canBe 2 = .ok (.idiv, 1) := by decide +kernel
theorem dX0_canBe_3 : decode cX0_canBe 3 = .ok (.istore_n 3, 1) := by decide +kernel
theorem dX0_canBe_4 : decode cX0_canBe 4 = .ok (.iload_n 1, 1) := by decide +kernel
theorem dX0_canBe_5 : decode cX0_canBe 5 = .ok (.iload_n 3, 1) := by decide +kernel
theorem dX0_canBe_6 : decode cX0_canBe 6 = .ok (.invokestatic 65, 3) := by decide +kernel
theorem dX0_canBe_9 : decode cX0_canBe 9 = .ok (.ifCond .eq 14, 3) := by decide +kernel
theorem dX0_canBe_12 : decode cX0_canBe 12 = .ok (.aload_n 0, 1) := by decide +kernel
theorem dX0_canBe_13 : decode cX0_canBe 13 = .ok (.getfield 48, 3) := by decide +kernel
theorem dX0_canBe_16 : decode cX0_canBe 16 = .ok (.iload_n 1, 1) := by decide +kernel
theorem dX0_canBe_17 : decode cX0_canBe 17 = .ok (.aaload, 1) := by decide +kernel
theorem dX0_canBe_18 : decode cX0_canBe 18 = .ok (.iload_n 3, 1) := by decide +kernel
theorem dX0_canBe_19 : decode cX0_canBe 19 = .ok (.iaload, 1) := by decide +kernel
theorem dX0_canBe_20 : decode cX0_canBe 20 = .ok (.goto 4, 3) := by decide +kernel
theorem dX0_canBe_23 : decode cX0_canBe 23 = .ok (.iconst 0, 1) := by decide +kernel
theorem dX0_canBe_24 : decode cX0_canBe 24 = .ok (.ireturn, 1) := by decide +kernel
theorem dX0_domainIf_0 : decode cX0_domainIf 0 = .ok (.aload_n 0, 1) := by decide +kernel
theorem dX0_domainIf_1 : decode cX0_domainIf 1 = .ok (.getfield 22, 3) := by decide +kernel
theorem dX0_domainIf_4 : decode cX0_domainIf 4 = .ok (.iload_n 1, 1) := by decide +kernel
theorem dX0_domainIf_5 : decode cX0_domainIf 5 = .ok (.iaload, 1) := by decide +kernel
theorem dX0_domainIf_6 : decode cX0_domainIf 6 = .ok (.iload_n 2, 1) := by decide +kernel
theorem dX0_domainIf_7 : decode cX0_domainIf 7 = .ok (.if_icmp .ne 7, 3) := by decide +kernel
theorem dX0_domainIf_10 : decode cX0_domainIf 10 = .ok (.iload_n 3, 1) := by decide +kernel
theorem dX0_domainIf_11 : decode cX0_domainIf 11 = .ok (.goto 9, 3) := by decide +kernel
theorem dX0_domainIf_14 : decode cX0_domainIf 14 = .ok (.aload_n 0, 1) := by decide +kernel
theorem dX0_domainIf_15 : decode cX0_domainIf 15 = .ok (.getfield 22, 3) := by decide +kernel
theorem dX0_domainIf_18 : decode cX0_domainIf 18 = .ok (.iload_n 1, 1) := by decide +kernel
theorem dX0_domainIf_19 : decode cX0_domainIf 19 = .ok (.iaload, 1) := by decide +kernel
theorem dX0_domainIf_20 : decode cX0_domainIf 20 = .ok (.istore 4, 2) := by decide +kernel
theorem dX0_domainIf_22 : decode cX0_domainIf 22 = .ok (.aload_n 0, 1) := by decide +kernel
theorem dX0_domainIf_23 : decode cX0_domainIf 23 = .ok (.iload 4, 2) := by decide +kernel
theorem dX0_domainIf_25 : decode cX0_domainIf 25 = .ok (.invokevirtual 92, 3) := by decide +kernel
theorem dX0_domainIf_28 : decode cX0_domainIf 28 = .ok (.ifCond .eq 13, 3) := by decide +kernel
theorem dX0_domainIf_31 : decode cX0_domainIf 31 = .ok (.aload_n 0, 1) := by decide +kernel
theorem dX0_domainIf_32 : decode cX0_domainIf 32 = .ok (.getfield 18, 3) := by decide +kernel
theorem dX0_domainIf_35 : decode cX0_domainIf 35 = .ok (.iload 4, 2) := by decide +kernel
theorem dX0_domainIf_37 : decode cX0_domainIf 37 = .ok (.iaload, 1) := by decide +kernel
theorem dX0_domainIf_38 : decode cX0_domainIf 38 = .ok (.goto 4, 3) := by decide +kernel
theorem dX0_domainIf_41 : decode cX0_domainIf 41 = .ok (.iconst (-1), 1) := by decide +kernel
theorem dX0_domainIf_42 : decode cX0_domainIf 42 = .ok (.ireturn, 1) := by decide +kernel
