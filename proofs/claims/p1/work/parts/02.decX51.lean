theorem dX5_join_0 : decode cX5_join 0 = .ok (.aload_n 0, 1) := by decide +kernel
theorem dX5_join_1 : decode cX5_join 1 = .ok (.iconst 0, 1) := by decide +kernel
theorem dX5_join_2 : decode cX5_join 2 = .ok (.putfield 22, 3) := by decide +kernel
theorem dX5_join_5 : decode cX5_join 5 = .ok (.aload_n 0, 1) := by decide +kernel
theorem dX5_join_6 : decode cX5_join 6 = .ok (.iload_n 1, 1) := by decide +kernel
theorem dX5_join_7 : decode cX5_join 7 = .ok (.invokevirtual 130, 3) := by decide +kernel
theorem dX5_join_10 : decode cX5_join 10 = .ok (.ifCond .eq 11, 3) := by decide +kernel
theorem dX5_join_13 : decode cX5_join 13 = .ok (.aload_n 0, 1) := by decide +kernel
theorem dX5_join_14 : decode cX5_join 14 = .ok (.iload_n 2, 1) := by decide +kernel
theorem dX5_join_15 : decode cX5_join 15 = .ok (.invokevirtual 130, 3) := by decide +kernel
theorem dX5_join_18 : decode cX5_join 18 = .ok (.ifCond .ne 9, 3) := by decide +kernel
theorem dX5_join_21 : decode cX5_join 21 = .ok (.aload_n 0, 1) := by decide +kernel
theorem dX5_join_22 : decode cX5_join 22 = .ok (.iconst 1, 1) := by decide +kernel
theorem dX5_join_23 : decode cX5_join 23 = .ok (.invokevirtual 119, 3) := by decide +kernel
theorem dX5_join_26 : decode cX5_join 26 = .ok (.ireturn, 1) := by decide +kernel
theorem dX5_join_27 : decode cX5_join 27 = .ok (.iload_n 1, 1) := by decide +kernel
theorem dX5_join_28 : decode cX5_join 28 = .ok (.iload_n 2, 1) := by decide +kernel
theorem dX5_join_29 : decode cX5_join 29 = .ok (.if_icmp .ne 9, 3) := by decide +kernel
theorem dX5_join_32 : decode cX5_join 32 = .ok (.aload_n 0, 1) := by decide +kernel
theorem dX5_join_33 : decode cX5_join 33 = .ok (.iconst 2, 1) := by decide +kernel
theorem dX5_join_34 : decode cX5_join 34 = .ok (.invokevirtual 119, 3) := by decide +kernel
theorem dX5_join_37 : decode cX5_join 37 = .ok (.ireturn, 1) := by decide +kernel
theorem dX5_join_38 : decode cX5_join 38 = .ok (.aload_n 0, 1) := by decide +kernel
theorem dX5_join_39 : decode cX5_join 39 = .ok (.iload_n 1, 1) := by decide +kernel
theorem dX5_join_40 : decode cX5_join 40 = .ok (.iload_n 2, 1) := by decide +kernel
theorem dX5_join_41 : decode cX5_join 41 = .ok (.invokevirtual 201, 3) := by decide +kernel
theorem dX5_join_44 : decode cX5_join 44 = .ok (.ifCond .ne 9, 3) := by decide +kernel
theorem dX5_join_47 : decode cX5_join 47 = .ok (.aload_n 0, 1) := by decide +kernel
theorem dX5_join_48 : decode cX5_join 48 = .ok (.iconst 3, 1) := by decide +kernel
theorem dX5_join_49 : decode cX5_join 49 = .ok (.invokevirtual 119, 3) := by decide +kernel
theorem dX5_join_52 : decode cX5_join 52 = .ok (.ireturn, 1) := by decide +kernel
theorem dX5_join_53 : decode cX5_join 53 = .ok (.aload_n 0, 1) := by decide +kernel
theorem dX5_join_54 : decode cX5_join 54 = .ok (.iload_n 1, 1) := by decide +kernel
theorem dX5_join_55 : decode cX5_join 55 = .ok (.iload_n 2, 1) := by decide +kernel
theorem dX5_join_56 : decode cX5_join 56 = .ok (.invokevirtual 204, 3) := by decide +kernel
theorem dX5_join_59 : decode cX5_join 59 = .ok (.aload_n 0, 1) := by decide +kernel
theorem dX5_join_60 : decode cX5_join 60 = .ok (.invokevirtual 166, 3) := by decide +kernel
theorem dX5_join_63 : decode cX5_join 63 = .ok (.pop, 1) := by decide +kernel
theorem dX5_join_64 : decode cX5_join 64 = .ok (.aload_n 0, 1) := by decide +kernel
theorem dX5_join_65 : decode cX5_join 65 = .ok (.iload_n 1, 1) := by decide +kernel
theorem dX5_join_66 : decode cX5_join 66 = .ok (.iload_n 2, 1) := by decide +kernel
theorem dX5_join_67 : decode cX5_join 67 = .ok (.invokestatic 198, 3) := by decide +kernel
theorem dX5_join_70 : decode cX5_join 70 = .ok (.invokevirtual 188, 3) := by decide +kernel
theorem dX5_join_73 : decode cX5_join 73 = .ok (.ireturn, 1) := by decide +kernel
theorem dX5_document_0 : decode cX5_document 0 = .ok (.aload_n 0, 1) := by decide +kernel
theorem dX5_document_1 : decode cX5_document 1 = .ok (.iconst 0, 1) := by decide +kernel
theorem dX5_document_2 : decode cX5_document 2 = .ok (.putfield 22, 3) := by decide +kernel
theorem dX5_document_5 : decode cX5_document 5 = .ok (.aload_n 0, 1) := by decide +kernel
theorem dX5_document_6 : decode cX5_document 6 = .ok (.getfield 19, 3) := by decide +kernel
theorem dX5_document_9 : decode cX5_document 9 = .ok (.invokevirtual 37, 3) := by decide +kernel
theorem dX5_document_12 : decode cX5_document 12 = .ok (.bipush 6, 2) := by decide +kernel
theorem dX5_document_14 : decode cX5_document 14 = .ok (.if_icmp .ne 9, 3) := by decide +kernel
theorem dX5_document_17 : decode cX5_document 17 = .ok (.aload_n 0, 1) := by decide +kernel
theorem dX5_document_18 : decode cX5_document 18 = .ok (.iconst 1, 1) := by decide +kernel
theorem dX5_document_19 : decode cX5_document 19 = .ok (.invokevirtual 119, 3) := by decide +kernel
theorem dX5_document_22 : decode cX5_document 22 = .ok (.ireturn, 1) := by decide +kernel
theorem dX5_document_23 : decode cX5_document 23 = .ok (.iconst 3, 1) := by decide +kernel
theorem dX5_document_24 : decode cX5_document 24 = .ok (.anewarray 68, 3) := by decide +kernel
theorem dX5_document_27 : decode cX5_document 27 = .ok (.astore_n 1, 1) := by decide +kernel
theorem dX5_document_28 : decode cX5_document 28 = .ok (.iconst 0, 1) := by decide +kernel
theorem dX5_document_29 : decode cX5_document 29 = .ok (.istore_n 2, 1) := by decide +kernel
theorem dX5_document_30 : decode cX5_document 30 = .ok (.iload_n 2, 1) := by decide +kernel
theorem dX5_document_31 : decode cX5_document 31 = .ok (.iconst 3, 1) := by decide +kernel
theorem dX5_document_32 : decode cX5_document 32 = .ok (.if_icmp .ge 19, 3) := by decide +kernel
theorem dX5_document_35 : decode cX5_document 35 = .ok (.aload_n 1, 1) := by decide +kernel
theorem dX5_document_36 : decode cX5_document 36 = .ok (.iload_n 2, 1) := by decide +kernel
theorem dX5_document_37 : decode cX5_document 37 = .ok (.new 68, 3) := by decide +kernel
theorem dX5_document_40 : decode cX5_document 40 = .ok (.dup, 1) := by decide +kernel
theorem dX5_document_41 : decode cX5_document 41 = .ok (.invokespecial 208, 3) := by decide +kernel
theorem dX5_document_44 : decode cX5_document 44 = .ok (.aastore, 1) := by decide +kernel
theorem dX5_document_45 : decode cX5_document 45 = .ok (.iinc 2 1, 3) := by decide +kernel
theorem dX5_document_48 : decode cX5_document 48 = .ok (.goto (-18), 3) := by decide +kernel
theorem dX5_document_51 : decode cX5_document 51 = .ok (.aload_n 0, 1) := by decide +kernel
theorem dX5_document_52 : decode cX5_document 52 = .ok (.getfield 19, 3) := by decide +kernel
theorem dX5_document_55 : decode cX5_document 55 = .ok (.aload_n 1, 1) := by decide +kernel
theorem dX5_document_56 : decode cX5_document 56 = .ok (.invokevirtual 126, 3) := by decide +kernel
theorem dX5_document_59 : decode cX5_document 59 = .ok (.pop, 1) := by decide +kernel
theorem dX5_document_60 : decode cX5_document 60 = .ok (.aload_n 0, 1) := by decide +kernel
theorem dX5_document_61 : decode cX5_document 61 = .ok (.getfield 19, 3) := by decide +kernel
theorem dX5_document_64 : decode cX5_document 64 = .ok (.invokevirtual 37, 3) := by decide +kernel
theorem dX5_document_67 : decode cX5_document 67 = .ok (.iconst 1, 1) := by decide +kernel
theorem dX5_document_68 : decode cX5_document 68 = .ok (.isub, 1) := by decide +kernel
theorem dX5_document_69 : decode cX5_document 69 = .ok (.ireturn, 1) := by decide +kernel
theorem dX5_isPlace_0 : decode cX5_isPlace 0 = .ok (.aload_n 0, 1) := by decide +kernel
theorem dX5_isPlace_1 : decode cX5_isPlace 1 = .ok (.iload_n 1, 1) := by decide +kernel
theorem dX5_isPlace_2 : decode cX5_isPlace 2 = .ok (.iload_n 2, 1) := by decide +kernel
theorem dX5_isPlace_3 : decode cX5_isPlace 3 = .ok (.invokevirtual 209, 3) := by decide +kernel
theorem dX5_isPlace_6 : decode cX5_isPlace 6 = .ok (.ifCond .eq 39, 3) := by decide +kernel
theorem dX5_isPlace_9 : decode cX5_isPlace 9 = .ok (.iload_n 3, 1) := by decide +kernel
theorem dX5_isPlace_10 : decode cX5_isPlace 10 = .ok (.iconst 0, 1) := by decide +kernel
theorem dX5_isPlace_11 : decode cX5_isPlace 11 = .ok (.bipush 11, 2) := by decide +kernel
theorem dX5_isPlace_13 : decode cX5_isPlace 13 = .ok (.aload_n 0, 1) := by decide +kernel
theorem dX5_isPlace_14 : decode cX5_isPlace 14 = .ok (.getfield 19, 3) := by decide +kernel
theorem dX5_isPlace_17 : decode cX5_isPlace 17 = .ok (.iload_n 1, 1) := by decide +kernel
theorem dX5_isPlace_18 : decode cX5_isPlace 18 = .ok (.invokevirtual 41, 3) := by decide +kernel
theorem dX5_isPlace_21 : decode cX5_isPlace 21 = .ok (.checkcast 91, 3) := by decide +kernel
theorem dX5_isPlace_24 : decode cX5_isPlace 24 = .ok (.iload_n 2, 1) := by decide +kernel
theorem dX5_isPlace_25 : decode cX5_isPlace 25 = .ok (.aaload, 1) := by decide +kernel
theorem dX5_isPlace_26 : decode cX5_isPlace 26 = .ok (.getfield 67, 3) := by decide +kernel
theorem dX5_isPlace_29 : decode cX5_isPlace 29 = .ok (.invokevirtual 37, 3) := by decide +kernel
theorem dX5_isPlace_32 : decode cX5_isPlace 32 = .ok (.invokestatic 198, 3) := by decide +kernel
theorem dX5_isPlace_35 : decode cX5_isPlace 35 = .ok (.invokestatic 112, 3) := by decide +kernel
theorem dX5_isPlace_38 : decode cX5_isPlace 38 = .ok (.ifCond .eq 7, 3) := by decide +kernel
theorem dX5_isPlace_41 : decode cX5_isPlace 41 = .ok (.iconst 1, 1) := by decide +kernel
theorem dX5_isPlace_42 : decode cX5_isPlace 42 = .ok (.goto 4, 3) := by decide +kernel
theorem dX5_isPlace_45 : decode cX5_isPlace 45 = .ok (.iconst 0, 1) := by decide +kernel
theorem dX5_isPlace_46 : decode cX5_isPlace 46 = .ok (.ireturn, 1) := by decide +kernel
theorem dX5_hasForm_0 : decode cX5_hasForm 0 = .ok (.aload_n 0, 1) := by decide +kernel
theorem dX5_hasForm_1 : decode cX5_hasForm 1 = .ok (.iload_n 1, 1) := by decide +kernel
theorem dX5_hasForm_2 : decode cX5_hasForm 2 = .ok (.iload_n 2, 1) := by decide +kernel
theorem dX5_hasForm_3 : decode cX5_hasForm 3 = .ok (.invokevirtual 209, 3) := by decide +kernel
theorem dX5_hasForm_6 : decode cX5_hasForm 6 = .ok (.ifCond .eq 36, 3) := by decide +kernel
theorem dX5_hasForm_9 : decode cX5_hasForm 9 = .ok (.iload_n 3, 1) := by decide +kernel
theorem dX5_hasForm_10 : decode cX5_hasForm 10 = .ok (.iconst 0, 1) := by decide +kernel
theorem dX5_hasForm_11 : decode cX5_hasForm 11 = .ok (.aload_n 0, 1) := by decide +kernel
theorem dX5_hasForm_12 : decode cX5_hasForm 12 = .ok (.getfield 19, 3) := by decide +kernel
theorem dX5_hasForm_15 : decode cX5_hasForm 15 = .ok (.iload_n 1, 1) := by decide +kernel
theorem dX5_hasForm_16 : decode cX5_hasForm 16 = .ok (.invokevirtual 41, 3) := by decide +kernel
theorem dX5_hasForm_19 : decode cX5_hasForm 19 = .ok (.checkcast 91, 3) := by decide +kernel
theorem dX5_hasForm_22 : decode cX5_hasForm 22 = .ok (.iload_n 2, 1) := by decide +kernel
theorem dX5_hasForm_23 : decode cX5_hasForm 23 = .ok (.aaload, 1) := by decide +kernel
theorem dX5_hasForm_24 : decode cX5_hasForm 24 = .ok (.getfield 67, 3) := by decide +kernel
theorem dX5_hasForm_27 : decode cX5_hasForm 27 = .ok (.invokevirtual 37, 3) := by decide +kernel
theorem dX5_hasForm_30 : decode cX5_hasForm 30 = .ok (.iconst 1, 1) := by decide +kernel
theorem dX5_hasForm_31 : decode cX5_hasForm 31 = .ok (.isub, 1) := by decide +kernel
theorem dX5_hasForm_32 : decode cX5_hasForm 32 = .ok (.invokestatic 112, 3) := by decide +kernel
theorem dX5_hasForm_35 : decode cX5_hasForm 35 = .ok (.ifCond .eq 7, 3) := by decide +kernel
theorem dX5_hasForm_38 : decode cX5_hasForm 38 = .ok (.iconst 1, 1) := by decide +kernel
theorem dX5_hasForm_39 : decode cX5_hasForm 39 = .ok (.goto 4, 3) := by decide +kernel
theorem dX5_hasForm_42 : decode cX5_hasForm 42 = .ok (.iconst 0, 1) := by decide +kernel
theorem dX5_hasForm_43 : decode cX5_hasForm 43 = .ok (.ireturn, 1) := by decide +kernel
theorem dX5_write_0 : decode cX5_write 0 = .ok (.aload_n 0, 1) := by decide +kernel
theorem dX5_write_1 : decode cX5_write 1 = .ok (.iconst 0, 1) := by decide +kernel
theorem dX5_write_2 : decode cX5_write 2 = .ok (.putfield 22, 3) := by decide +kernel
theorem dX5_write_5 : decode cX5_write 5 = .ok (.aload_n 0, 1) := by decide +kernel
theorem dX5_write_6 : decode cX5_write 6 = .ok (.iload_n 1, 1) := by decide +kernel
theorem dX5_write_7 : decode cX5_write 7 = .ok (.iload_n 2, 1) := by decide +kernel
theorem dX5_write_8 : decode cX5_write 8 = .ok (.iload_n 3, 1) := by decide +kernel
theorem dX5_write_9 : decode cX5_write 9 = .ok (.invokevirtual 212, 3) := by decide +kernel
theorem dX5_write_12 : decode cX5_write 12 = .ok (.ifCond .ne 9, 3) := by decide +kernel
theorem dX5_write_15 : decode cX5_write 15 = .ok (.aload_n 0, 1) := by decide +kernel
theorem dX5_write_16 : decode cX5_write 16 = .ok (.iconst 1, 1) := by decide +kernel
theorem dX5_write_17 : decode cX5_write 17 = .ok (.invokevirtual 119, 3) := by decide +kernel
theorem dX5_write_20 : decode cX5_write 20 = .ok (.ireturn, 1) := by decide +kernel
theorem dX5_write_21 : decode cX5_write 21 = .ok (.iload 4, 2) := by decide +kernel
theorem dX5_write_23 : decode cX5_write 23 = .ok (.iconst 0, 1) := by decide +kernel
theorem dX5_write_24 : decode cX5_write 24 = .ok (.bipush 79, 2) := by decide +kernel
theorem dX5_write_26 : decode cX5_write 26 = .ok (.invokestatic 112, 3) := by decide +kernel
theorem dX5_write_29 : decode cX5_write 29 = .ok (.ifCond .ne 9, 3) := by decide +kernel
theorem dX5_write_32 : decode cX5_write 32 = .ok (.aload_n 0, 1) := by decide +kernel
theorem dX5_write_33 : decode cX5_write 33 = .ok (.iconst 2, 1) := by decide +kernel
theorem dX5_write_34 : decode cX5_write 34 = .ok (.invokevirtual 119, 3) := by decide +kernel
theorem dX5_write_37 : decode cX5_write 37 = .ok (.ireturn, 1) := by decide +kernel
theorem dX5_write_38 : decode cX5_write 38 = .ok (.aload_n 0, 1) := by decide +kernel
theorem dX5_write_39 : decode cX5_write 39 = .ok (.getfield 19, 3) := by decide +kernel
theorem dX5_write_42 : decode cX5_write 42 = .ok (.iload_n 1, 1) := by decide +kernel
theorem dX5_write_43 : decode cX5_write 43 = .ok (.invokevirtual 41, 3) := by decide +kernel
theorem dX5_write_46 : decode cX5_write 46 = .ok (.checkcast 91, 3) := by decide +kernel
theorem dX5_write_49 : decode cX5_write 49 = .ok (.iload_n 2, 1) := by decide +kernel
theorem dX5_write_50 : decode cX5_write 50 = .ok (.aaload, 1) := by decide +kernel
theorem dX5_write_51 : decode cX5_write 51 = .ok (.astore 5, 2) := by decide +kernel
theorem dX5_write_53 : decode cX5_write 53 = .ok (.aload 5, 2) := by decide +kernel
theorem dX5_write_55 : decode cX5_write 55 = .ok (.getfield 93, 3) := by decide +kernel
theorem dX5_write_58 : decode cX5_write 58 = .ok (.iconst 1, 1) := by decide +kernel
theorem dX5_write_59 : decode cX5_write 59 = .ok (.if_icmp .ne 9, 3) := by decide +kernel
theorem dX5_write_62 : decode cX5_write 62 = .ok (.aload_n 0, 1) := by decide +kernel
theorem dX5_write_63 : decode cX5_write 63 = .ok (.iconst 3, 1) := by decide +kernel
theorem dX5_write_64 : decode cX5_write 64 = .ok (.invokevirtual 119, 3) := by decide +kernel
theorem dX5_write_67 : decode cX5_write 67 = .ok (.ireturn, 1) := by decide +kernel
theorem dX5_write_68 : decode cX5_write 68 = .ok (.iload_n 3, 1) := by decide +kernel
theorem dX5_write_69 : decode cX5_write 69 = .ok (.aload 5, 2) := by decide +kernel
theorem dX5_write_71 : decode cX5_write 71 = .ok (.getfield 67, 3) := by decide +kernel
theorem dX5_write_74 : decode cX5_write 74 = .ok (.invokevirtual 37, 3) := by decide +kernel
theorem dX5_write_77 : decode cX5_write 77 = .ok (.if_icmp .ne 20, 3) := by decide +kernel
theorem dX5_write_80 : decode cX5_write 80 = .ok (.aload 5, 2) := by decide +kernel
theorem dX5_write_82 : decode cX5_write 82 = .ok (.getfield 67, 3) := by decide +kernel
theorem dX5_write_85 : decode cX5_write 85 = .ok (.iload 4, 2) := by decide +kernel
theorem dX5_write_87 : decode cX5_write 87 = .ok (.invokestatic 122, 3) := by decide +kernel
theorem dX5_write_90 : decode cX5_write 90 = .ok (.invokevirtual 126, 3) := by decide +kernel
theorem dX5_write_93 : decode cX5_write 93 = .ok (.pop, 1) := by decide +kernel
theorem dX5_write_94 : decode cX5_write 94 = .ok (.goto 18, 3) := by decide +kernel
theorem dX5_write_97 : decode cX5_write 97 = .ok (.aload 5, 2) := by decide +kernel
theorem dX5_write_99 : decode cX5_write 99 = .ok (.getfield 67, 3) := by decide +kernel
theorem dX5_write_102 : decode cX5_write 102 = .ok (.iload_n 3, 1) := by decide +kernel
theorem dX5_write_103 : decode cX5_write 103 = .ok (.iload 4, 2) := by decide +kernel
theorem dX5_write_105 : decode cX5_write 105 = .ok (.invokestatic 122, 3) := by decide +kernel
theorem dX5_write_108 : decode cX5_write 108 = .ok (.invokevirtual 215, 3) := by decide +kernel
theorem dX5_write_111 : decode cX5_write 111 = .ok (.pop, 1) := by decide +kernel
theorem dX5_write_112 : decode cX5_write 112 = .ok (.aload 5, 2) := by decide +kernel
theorem dX5_write_114 : decode cX5_write 114 = .ok (.iconst 0, 1) := by decide +kernel
theorem dX5_write_115 : decode cX5_write 115 = .ok (.putfield 93, 3) := by decide +kernel
theorem dX5_write_118 : decode cX5_write 118 = .ok (.aload_n 0, 1) := by decide +kernel
theorem dX5_write_119 : decode cX5_write 119 = .ok (.invokevirtual 166, 3) := by decide +kernel
theorem dX5_write_122 : decode cX5_write 122 = .ok (.pop, 1) := by decide +kernel
theorem dX5_write_123 : decode cX5_write 123 = .ok (.aload 5, 2) := by decide +kernel
theorem dX5_write_125 : decode cX5_write 125 = .ok (.getfield 67, 3) := by decide +kernel
theorem dX5_write_128 : decode cX5_write 128 = .ok (.invokevirtual 37, 3) := by decide +kernel
theorem dX5_write_131 : decode cX5_write 131 = .ok (.ireturn, 1) := by decide +kernel
theorem dX5_cut_0 : decode cX5_cut 0 = .ok (.aload_n 0, 1) := by decide +kernel
theorem dX5_cut_1 : decode cX5_cut 1 = .ok (.iconst 0, 1) := by decide +kernel
theorem dX5_cut_2 : decode cX5_cut 2 = .ok (.putfield 22, 3) := by decide +kernel
theorem dX5_cut_5 : decode cX5_cut 5 = .ok (.aload_n 0, 1) := by decide +kernel
theorem dX5_cut_6 : decode cX5_cut 6 = .ok (.iload_n 1, 1) := by decide +kernel
theorem dX5_cut_7 : decode cX5_cut 7 = .ok (.iload_n 2, 1) := by decide +kernel
theorem dX5_cut_8 : decode cX5_cut 8 = .ok (.invokevirtual 209, 3) := by decide +kernel
theorem dX5_cut_11 : decode cX5_cut 11 = .ok (.ifCond .ne 9, 3) := by decide +kernel
theorem dX5_cut_14 : decode cX5_cut 14 = .ok (.aload_n 0, 1) := by decide +kernel
theorem dX5_cut_15 : decode cX5_cut 15 = .ok (.iconst 1, 1) := by decide +kernel
theorem dX5_cut_16 : decode cX5_cut 16 = .ok (.invokevirtual 119, 3) := by decide +kernel
theorem dX5_cut_19 : decode cX5_cut 19 = .ok (.ireturn, 1) := by decide +kernel
theorem dX5_cut_20 : decode cX5_cut 20 = .ok (.aload_n 0, 1) := by decide +kernel
theorem dX5_cut_21 : decode cX5_cut 21 = .ok (.getfield 19, 3) := by decide +kernel
theorem dX5_cut_24 : decode cX5_cut 24 = .ok (.iload_n 1, 1) := by decide +kernel
theorem dX5_cut_25 : decode cX5_cut 25 = .ok (.invokevirtual 41, 3) := by decide +kernel
theorem dX5_cut_28 : decode cX5_cut 28 = .ok (.checkcast 91, 3) := by decide +kernel
theorem dX5_cut_31 : decode cX5_cut 31 = .ok (.iload_n 2, 1) := by decide +kernel
theorem dX5_cut_32 : decode cX5_cut 32 = .ok (.aaload, 1) := by decide +kernel
theorem dX5_cut_33 : decode cX5_cut 33 = .ok (.astore_n 3, 1) := by decide +kernel
theorem dX5_cut_34 : decode cX5_cut 34 = .ok (.aload_n 3, 1) := by decide +kernel
theorem dX5_cut_35 : decode cX5_cut 35 = .ok (.getfield 93, 3) := by decide +kernel
theorem dX5_cut_38 : decode cX5_cut 38 = .ok (.iconst 1, 1) := by decide +kernel
theorem dX5_cut_39 : decode cX5_cut 39 = .ok (.if_icmp .eq 13, 3) := by decide +kernel
theorem dX5_cut_42 : decode cX5_cut 42 = .ok (.aload_n 3, 1) := by decide +kernel
theorem dX5_cut_43 : decode cX5_cut 43 = .ok (.getfield 67, 3) := by decide +kernel
theorem dX5_cut_46 : decode cX5_cut 46 = .ok (.invokevirtual 219, 3) := by decide +kernel
theorem dX5_cut_49 : decode cX5_cut 49 = .ok (.ifCond .eq 9, 3) := by decide +kernel
theorem dX5_cut_52 : decode cX5_cut 52 = .ok (.aload_n 0, 1) := by decide +kernel
theorem dX5_cut_53 : decode cX5_cut 53 = .ok (.iconst 2, 1) := by decide +kernel
theorem dX5_cut_54 : decode cX5_cut 54 = .ok (.invokevirtual 119, 3) := by decide +kernel
theorem dX5_cut_57 : decode cX5_cut 57 = .ok (.ireturn, 1) := by decide +kernel
theorem dX5_cut_58 : decode cX5_cut 58 = .ok (.aload_n 3, 1) := by decide +kernel
theorem dX5_cut_59 : decode cX5_cut 59 = .ok (.getfield 67, 3) := by decide +kernel
theorem dX5_cut_62 : decode cX5_cut 62 = .ok (.aload_n 3, 1) := by decide +kernel
theorem dX5_cut_63 : decode cX5_cut 63 = .ok (.getfield 67, 3) := by decide +kernel
theorem dX5_cut_66 : decode cX5_cut 66 = .ok (.invokevirtual 37, 3) := by decide +kernel
theorem dX5_cut_69 : decode cX5_cut 69 = .ok (.iconst 1, 1) := by decide +kernel
theorem dX5_cut_70 : decode cX5_cut 70 = .ok (.isub, 1) := by decide +kernel
theorem dX5_cut_71 : decode cX5_cut 71 = .ok (.invokevirtual 222, 3) := by decide +kernel
theorem dX5_cut_74 : decode cX5_cut 74 = .ok (.checkcast 52, 3) := by decide +kernel
theorem dX5_cut_77 : decode cX5_cut 77 = .ok (.invokevirtual 54, 3) := by decide +kernel
theorem dX5_cut_80 : decode cX5_cut 80 = .ok (.istore 4, 2) := by decide +kernel
theorem dX5_cut_82 : decode cX5_cut 82 = .ok (.aload_n 3, 1) := by decide +kernel
theorem dX5_cut_83 : decode cX5_cut 83 = .ok (.iconst 0, 1) := by decide +kernel
theorem dX5_cut_84 : decode cX5_cut 84 = .ok (.putfield 93, 3) := by decide +kernel
theorem dX5_cut_87 : decode cX5_cut 87 = .ok (.aload_n 0, 1) := by decide +kernel
theorem dX5_cut_88 : decode cX5_cut 88 = .ok (.invokevirtual 166, 3) := by decide +kernel
theorem dX5_cut_91 : decode cX5_cut 91 = .ok (.pop, 1) := by decide +kernel
theorem dX5_cut_92 : decode cX5_cut 92 = .ok (.iload 4, 2) := by decide +kernel
theorem dX5_cut_94 : decode cX5_cut 94 = .ok (.ireturn, 1) := by decide +kernel
theorem dX5_approve_0 : decode cX5_approve 0 = .ok (.aload_n 0, 1) := by decide +kernel
theorem dX5_approve_1 : decode cX5_approve 1 = .ok (.iconst 0, 1) := by decide +kernel
theorem dX5_approve_2 : decode cX5_approve 2 = .ok (.putfield 22, 3) := by decide +kernel
theorem dX5_approve_5 : decode cX5_approve 5 = .ok (.aload_n 0, 1) := by decide +kernel
theorem dX5_approve_6 : decode cX5_approve 6 = .ok (.iload_n 1, 1) := by decide +kernel
theorem dX5_approve_7 : decode cX5_approve 7 = .ok (.iload_n 2, 1) := by decide +kernel
theorem dX5_approve_8 : decode cX5_approve 8 = .ok (.invokevirtual 209, 3) := by decide +kernel
theorem dX5_approve_11 : decode cX5_approve 11 = .ok (.ifCond .ne 9, 3) := by decide +kernel
theorem dX5_approve_14 : decode cX5_approve 14 = .ok (.aload_n 0, 1) := by decide +kernel
theorem dX5_approve_15 : decode cX5_approve 15 = .ok (.iconst 1, 1) := by decide +kernel
theorem dX5_approve_16 : decode cX5_approve 16 = .ok (.invokevirtual 119, 3) := by decide +kernel
theorem dX5_approve_19 : decode cX5_approve 19 = .ok (.ireturn, 1) := by decide +kernel
theorem dX5_approve_20 : decode cX5_approve 20 = .ok (.aload_n 0, 1) := by decide +kernel
theorem dX5_approve_21 : decode cX5_approve 21 = .ok (.getfield 19, 3) := by decide +kernel
theorem dX5_approve_24 : decode cX5_approve 24 = .ok (.iload_n 1, 1) := by decide +kernel
theorem dX5_approve_25 : decode cX5_approve 25 = .ok (.invokevirtual 41, 3) := by decide +kernel
theorem dX5_approve_28 : decode cX5_approve 28 = .ok (.checkcast 91, 3) := by decide +kernel
theorem dX5_approve_31 : decode cX5_approve 31 = .ok (.iload_n 2, 1) := by decide +kernel
theorem dX5_approve_32 : decode cX5_approve 32 = .ok (.aaload, 1) := by decide +kernel
theorem dX5_approve_33 : decode cX5_approve 33 = .ok (.astore_n 3, 1) := by decide +kernel
theorem dX5_approve_34 : decode cX5_approve 34 = .ok (.aload_n 3, 1) := by decide +kernel
theorem dX5_approve_35 : decode cX5_approve 35 = .ok (.getfield 67, 3) := by decide +kernel
theorem dX5_approve_38 : decode cX5_approve 38 = .ok (.invokevirtual 219, 3) := by decide +kernel
theorem dX5_approve_41 : decode cX5_approve 41 = .ok (.ifCond .ne 21, 3) := by decide +kernel
theorem dX5_approve_44 : decode cX5_approve 44 = .ok (.aload_n 3, 1) := by decide +kernel
theorem dX5_approve_45 : decode cX5_approve 45 = .ok (.getfield 93, 3) := by decide +kernel
theorem dX5_approve_48 : decode cX5_approve 48 = .ok (.iconst 1, 1) := by decide +kernel
theorem dX5_approve_49 : decode cX5_approve 49 = .ok (.if_icmp .eq 13, 3) := by decide +kernel
theorem dX5_approve_52 : decode cX5_approve 52 = .ok (.aload_n 0, 1) := by decide +kernel
theorem dX5_approve_53 : decode cX5_approve 53 = .ok (.aload_n 3, 1) := by decide +kernel
theorem dX5_approve_54 : decode cX5_approve 54 = .ok (.iload_n 2, 1) := by decide +kernel
theorem dX5_approve_55 : decode cX5_approve 55 = .ok (.iconst (-1), 1) := by decide +kernel
theorem dX5_approve_56 : decode cX5_approve 56 = .ok (.invokevirtual 94, 3) := by decide +kernel
theorem dX5_approve_59 : decode cX5_approve 59 = .ok (.ifCond .eq 9, 3) := by decide +kernel
theorem dX5_approve_62 : decode cX5_approve 62 = .ok (.aload_n 0, 1) := by decide +kernel
theorem dX5_approve_63 : decode cX5_approve 63 = .ok (.iconst 2, 1) := by decide +kernel
theorem dX5_approve_64 : decode cX5_approve 64 = .ok (.invokevirtual 119, 3) := by decide +kernel
theorem dX5_approve_67 : decode cX5_approve 67 = .ok (.ireturn, 1) := by decide +kernel
theorem dX5_approve_68 : decode cX5_approve 68 = .ok (.aload_n 3, 1) := by decide +kernel
theorem dX5_approve_69 : decode cX5_approve 69 = .ok (.iconst 1, 1) := by decide +kernel
theorem dX5_approve_70 : decode cX5_approve 70 = .ok (.putfield 93, 3) := by decide +kernel
theorem dX5_approve_73 : decode cX5_approve 73 = .ok (.aload_n 0, 1) := by decide +kernel
theorem dX5_approve_74 : decode cX5_approve 74 = .ok (.invokevirtual 166, 3) := by decide +kernel
theorem dX5_approve_77 : decode cX5_approve 77 = .ok (.pop, 1) := by decide +kernel
theorem dX5_approve_78 : decode cX5_approve 78 = .ok (.aload_n 0, 1) := by decide +kernel
theorem dX5_approve_79 : decode cX5_approve 79 = .ok (.aload_n 3, 1) := by decide +kernel
theorem dX5_approve_80 : decode cX5_approve 80 = .ok (.iload_n 2, 1) := by decide +kernel
theorem dX5_approve_81 : decode cX5_approve 81 = .ok (.invokevirtual 225, 3) := by decide +kernel
theorem dX5_approve_84 : decode cX5_approve 84 = .ok (.ireturn, 1) := by decide +kernel
theorem dX5_use_0 : decode cX5_use 0 = .ok (.aload_n 0, 1) := by decide +kernel
theorem dX5_use_1 : decode cX5_use 1 = .ok (.iconst 0, 1) := by decide +kernel
theorem dX5_use_2 : decode cX5_use 2 = .ok (.putfield 22, 3) := by decide +kernel
theorem dX5_use_5 : decode cX5_use 5 = .ok (.aload_n 0, 1) := by decide +kernel
theorem dX5_use_6 : decode cX5_use 6 = .ok (.iload_n 1, 1) := by decide +kernel
theorem dX5_use_7 : decode cX5_use 7 = .ok (.iload_n 2, 1) := by decide +kernel
theorem dX5_use_8 : decode cX5_use 8 = .ok (.iload_n 3, 1) := by decide +kernel
theorem dX5_use_9 : decode cX5_use 9 = .ok (.invokevirtual 229, 3) := by decide +kernel
theorem dX5_use_12 : decode cX5_use 12 = .ok (.ifCond .eq 28, 3) := by decide +kernel
theorem dX5_use_15 : decode cX5_use 15 = .ok (.aload_n 0, 1) := by decide +kernel
theorem dX5_use_16 : decode cX5_use 16 = .ok (.aload_n 0, 1) := by decide +kernel
theorem dX5_use_17 : decode cX5_use 17 = .ok (.getfield 19, 3) := by decide +kernel
theorem dX5_use_20 : decode cX5_use 20 = .ok (.iload_n 1, 1) := by decide +kernel
theorem dX5_use_21 : decode cX5_use 21 = .ok (.invokevirtual 41, 3) := by decide +kernel
theorem dX5_use_24 : decode cX5_use 24 = .ok (.checkcast 91, 3) := by decide +kernel
theorem dX5_use_27 : decode cX5_use 27 = .ok (.iload_n 2, 1) := by decide +kernel
theorem dX5_use_28 : decode cX5_use 28 = .ok (.aaload, 1) := by decide +kernel
theorem dX5_use_29 : decode cX5_use 29 = .ok (.iload_n 2, 1) := by decide +kernel
theorem dX5_use_30 : decode cX5_use 30 = .ok (.iload_n 3, 1) := by decide +kernel
theorem dX5_use_31 : decode cX5_use 31 = .ok (.invokevirtual 232, 3) := by decide +kernel
theorem dX5_use_34 : decode cX5_use 34 = .ok (.invokestatic 236, 3) := by decide +kernel
theorem dX5_use_37 : decode cX5_use 37 = .ok (.goto 8, 3) := by decide +kernel
theorem dX5_use_40 : decode cX5_use 40 = .ok (.aload_n 0, 1) := by decide +kernel
theorem dX5_use_41 : decode cX5_use 41 = .ok (.iconst 1, 1) := by decide +kernel
theorem dX5_use_42 : decode cX5_use 42 = .ok (.invokevirtual 119, 3) := by decide +kernel
theorem dX5_use_45 : decode cX5_use 45 = .ok (.ireturn, 1) := by decide +kernel
theorem dX5_ofText_0 : decode cX5_ofText 0 = .ok (.aload_n 0, 1) := by decide +kernel
theorem dX5_ofText_1 : decode cX5_ofText 1 = .ok (.iconst 0, 1) := by decide +kernel
theorem dX5_ofText_2 : decode cX5_ofText 2 = .ok (.putfield 22, 3) := by decide +kernel
theorem dX5_ofText_5 : decode cX5_ofText 5 = .ok (.aload_n 0, 1) := by decide +kernel
theorem dX5_ofText_6 : decode cX5_ofText 6 = .ok (.iload_n 1, 1) := by decide +kernel
theorem dX5_ofText_7 : decode cX5_ofText 7 = .ok (.iload_n 2, 1) := by decide +kernel
theorem dX5_ofText_8 : decode cX5_ofText 8 = .ok (.invokevirtual 209, 3) := by decide +kernel
theorem dX5_ofText_11 : decode cX5_ofText 11 = .ok (.ifCond .ne 9, 3) := by decide +kernel
theorem dX5_ofText_14 : decode cX5_ofText 14 = .ok (.aload_n 0, 1) := by decide +kernel
theorem dX5_ofText_15 : decode cX5_ofText 15 = .ok (.iconst 1, 1) := by decide +kernel
theorem dX5_ofText_16 : decode cX5_ofText 16 = .ok (.invokevirtual 119, 3) := by decide +kernel
theorem dX5_ofText_19 : decode cX5_ofText 19 = .ok (.ireturn, 1) := by decide +kernel
theorem dX5_ofText_20 : decode cX5_ofText 20 = .ok (.iload_n 3, 1) := by decide +kernel
theorem dX5_ofText_21 : decode cX5_ofText 21 = .ok (.iconst 0, 1) := by decide +kernel
theorem dX5_ofText_22 : decode cX5_ofText 22 = .ok (.bipush 6, 2) := by decide +kernel
theorem dX5_ofText_24 : decode cX5_ofText 24 = .ok (.invokestatic 112, 3) := by decide +kernel
theorem dX5_ofText_27 : decode cX5_ofText 27 = .ok (.ifCond .eq 25, 3) := by decide +kernel
theorem dX5_ofText_30 : decode cX5_ofText 30 = .ok (.aload_n 0, 1) := by decide +kernel
theorem dX5_ofText_31 : decode cX5_ofText 31 = .ok (.aload_n 0, 1) := by decide +kernel
theorem dX5_ofText_32 : decode cX5_ofText 32 = .ok (.getfield 19, 3) := by decide +kernel
theorem dX5_ofText_35 : decode cX5_ofText 35 = .ok (.iload_n 1, 1) := by decide +kernel
theorem dX5_ofText_36 : decode cX5_ofText 36 = .ok (.invokevirtual 41, 3) := by decide +kernel
theorem dX5_ofText_39 : decode cX5_ofText 39 = .ok (.checkcast 91, 3) := by decide +kernel
theorem dX5_ofText_42 : decode cX5_ofText 42 = .ok (.iload_n 2, 1) := by decide +kernel
theorem dX5_ofText_43 : decode cX5_ofText 43 = .ok (.aaload, 1) := by decide +kernel
theorem dX5_ofText_44 : decode cX5_ofText 44 = .ok (.iload_n 2, 1) := by decide +kernel
theorem dX5_ofText_45 : decode cX5_ofText 45 = .ok (.iload_n 3, 1) := by decide +kernel
theorem dX5_ofText_46 : decode cX5_ofText 46 = .ok (.invokevirtual 241, 3) := by decide +kernel
theorem dX5_ofText_49 : decode cX5_ofText 49 = .ok (.goto 8, 3) := by decide +kernel
theorem dX5_ofText_52 : decode cX5_ofText 52 = .ok (.aload_n 0, 1) := by decide +kernel
theorem dX5_ofText_53 : decode cX5_ofText 53 = .ok (.iconst 2, 1) := by decide +kernel
theorem dX5_ofText_54 : decode cX5_ofText 54 = .ok (.invokevirtual 119, 3) := by decide +kernel
theorem dX5_ofText_57 : decode cX5_ofText 57 = .ok (.ireturn, 1) := by decide +kernel
theorem dX5_agreement_0 : decode cX5_agreement 0 = .ok (.aload_n 0, 1) := by decide +kernel
theorem dX5_agreement_1 : decode cX5_agreement 1 = .ok (.iconst 0, 1) := by decide +kernel
theorem dX5_agreement_2 : decode cX5_agreement 2 = .ok (.putfield 22, 3) := by decide +kernel
theorem dX5_agreement_5 : decode cX5_agreement 5 = .ok (.iload_n 1, 1) := by decide +kernel
theorem dX5_agreement_6 : decode cX5_agreement 6 = .ok (.iconst 0, 1) := by decide +kernel
theorem dX5_agreement_7 : decode cX5_agreement 7 = .ok (.aload_n 0, 1) := by decide +kernel
theorem dX5_agreement_8 : decode cX5_agreement 8 = .ok (.getfield 19, 3) := by decide +kernel
theorem dX5_agreement_11 : decode cX5_agreement 11 = .ok (.invokevirtual 37, 3) := by decide +kernel
theorem dX5_agreement_14 : decode cX5_agreement 14 = .ok (.iconst 1, 1) := by decide +kernel
theorem dX5_agreement_15 : decode cX5_agreement 15 = .ok (.isub, 1) := by decide +kernel
theorem dX5_agreement_16 : decode cX5_agreement 16 = .ok (.invokestatic 112, 3) := by decide +kernel
theorem dX5_agreement_19 : decode cX5_agreement 19 = .ok (.ifCond .eq 21, 3) := by decide +kernel
theorem dX5_agreement_22 : decode cX5_agreement 22 = .ok (.aload_n 0, 1) := by decide +kernel
theorem dX5_agreement_23 : decode cX5_agreement 23 = .ok (.aload_n 0, 1) := by decide +kernel
theorem dX5_agreement_24 : decode cX5_agreement 24 = .ok (.getfield 19, 3) := by decide +kernel
theorem dX5_agreement_27 : decode cX5_agreement 27 = .ok (.iload_n 1, 1) := by decide +kernel
theorem dX5_agreement_28 : decode cX5_agreement 28 = .ok (.invokevirtual 41, 3) := by decide +kernel
theorem dX5_agreement_31 : decode cX5_agreement 31 = .ok (.checkcast 91, 3) := by decide +kernel
theorem dX5_agreement_34 : decode cX5_agreement 34 = .ok (.invokevirtual 245, 3) := by decide +kernel
theorem dX5_agreement_37 : decode cX5_agreement 37 = .ok (.goto 8, 3) := by decide +kernel
theorem dX5_agreement_40 : decode cX5_agreement 40 = .ok (.aload_n 0, 1) := by decide +kernel
theorem dX5_agreement_41 : decode cX5_agreement 41 = .ok (.iconst 1, 1) := by decide +kernel
theorem dX5_agreement_42 : decode cX5_agreement 42 = .ok (.invokevirtual 119, 3) := by decide +kernel
theorem dX5_agreement_45 : decode cX5_agreement 45 = .ok (.ireturn, 1) := by decide +kernel
theorem dX5_pass_0 : decode cX5_pass 0 = .ok (.aload_n 0, 1) := by decide +kernel
theorem dX5_pass_1 : decode cX5_pass 1 = .ok (.iconst 0, 1) := by decide +kernel
theorem dX5_pass_2 : decode cX5_pass 2 = .ok (.putfield 22, 3) := by decide +kernel
theorem dX5_pass_5 : decode cX5_pass 5 = .ok (.iload_n 1, 1) := by decide +kernel
theorem dX5_pass_6 : decode cX5_pass 6 = .ok (.iconst 1, 1) := by decide +kernel
theorem dX5_pass_7 : decode cX5_pass 7 = .ok (.bipush 40, 2) := by decide +kernel
theorem dX5_pass_9 : decode cX5_pass 9 = .ok (.invokestatic 112, 3) := by decide +kernel
theorem dX5_pass_12 : decode cX5_pass 12 = .ok (.ifCond .ne 9, 3) := by decide +kernel
theorem dX5_pass_15 : decode cX5_pass 15 = .ok (.aload_n 0, 1) := by decide +kernel
theorem dX5_pass_16 : decode cX5_pass 16 = .ok (.iconst 1, 1) := by decide +kernel
theorem dX5_pass_17 : decode cX5_pass 17 = .ok (.invokevirtual 119, 3) := by decide +kernel
theorem dX5_pass_20 : decode cX5_pass 20 = .ok (.ireturn, 1) := by decide +kernel
theorem dX5_pass_21 : decode cX5_pass 21 = .ok (.aload_n 0, 1) := by decide +kernel
theorem dX5_pass_22 : decode cX5_pass 22 = .ok (.getfield 102, 3) := by decide +kernel
theorem dX5_pass_25 : decode cX5_pass 25 = .ok (.iload_n 1, 1) := by decide +kernel
theorem dX5_pass_26 : decode cX5_pass 26 = .ok (.iadd, 1) := by decide +kernel
theorem dX5_pass_27 : decode cX5_pass 27 = .ok (.sipush 199, 3) := by decide +kernel
theorem dX5_pass_30 : decode cX5_pass 30 = .ok (.if_icmp .le 9, 3) := by decide +kernel
theorem dX5_pass_33 : decode cX5_pass 33 = .ok (.aload_n 0, 1) := by decide +kernel
theorem dX5_pass_34 : decode cX5_pass 34 = .ok (.iconst 2, 1) := by decide +kernel
theorem dX5_pass_35 : decode cX5_pass 35 = .ok (.invokevirtual 119, 3) := by decide +kernel
theorem dX5_pass_38 : decode cX5_pass 38 = .ok (.ireturn, 1) := by decide +kernel
theorem dX5_pass_39 : decode cX5_pass 39 = .ok (.iconst 0, 1) := by decide +kernel
theorem dX5_pass_40 : decode cX5_pass 40 = .ok (.istore_n 2, 1) := by decide +kernel
theorem dX5_pass_41 : decode cX5_pass 41 = .ok (.iconst 0, 1) := by decide +kernel
theorem dX5_pass_42 : decode cX5_pass 42 = .ok (.istore_n 3, 1) := by decide +kernel
theorem dX5_pass_43 : decode cX5_pass 43 = .ok (.iload_n 3, 1) := by decide +kernel
theorem dX5_pass_44 : decode cX5_pass 44 = .ok (.iload_n 1, 1) := by decide +kernel
theorem dX5_pass_45 : decode cX5_pass 45 = .ok (.if_icmp .ge 26, 3) := by decide +kernel
theorem dX5_pass_48 : decode cX5_pass 48 = .ok (.aload_n 0, 1) := by decide +kernel
theorem dX5_pass_49 : decode cX5_pass 49 = .ok (.dup, 1) := by decide +kernel
theorem dX5_pass_50 : decode cX5_pass 50 = .ok (.getfield 102, 3) := by decide +kernel
theorem dX5_pass_53 : decode cX5_pass 53 = .ok (.iconst 1, 1) := by decide +kernel
theorem dX5_pass_54 : decode cX5_pass 54 = .ok (.iadd, 1) := by decide +kernel
theorem dX5_pass_55 : decode cX5_pass 55 = .ok (.putfield 102, 3) := by decide +kernel
theorem dX5_pass_58 : decode cX5_pass 58 = .ok (.iload_n 2, 1) := by decide +kernel
theorem dX5_pass_59 : decode cX5_pass 59 = .ok (.aload_n 0, 1) := by decide +kernel
theorem dX5_pass_60 : decode cX5_pass 60 = .ok (.invokevirtual 166, 3) := by decide +kernel
theorem dX5_pass_63 : decode cX5_pass 63 = .ok (.iadd, 1) := by decide +kernel
theorem dX5_pass_64 : decode cX5_pass 64 = .ok (.istore_n 2, 1) := by decide +kernel
theorem dX5_pass_65 : decode cX5_pass 65 = .ok (.iinc 3 1, 3) := by decide +kernel
theorem dX5_pass_68 : decode cX5_pass 68 = .ok (.goto (-25), 3) := by decide +kernel
theorem dX5_pass_71 : decode cX5_pass 71 = .ok (.iload_n 2, 1) := by decide +kernel
theorem dX5_pass_72 : decode cX5_pass 72 = .ok (.ireturn, 1) := by decide +kernel
theorem dX5_inState_0 : decode cX5_inState 0 = .ok (.iconst 0, 1) := by decide +kernel
theorem dX5_inState_1 : decode cX5_inState 1 = .ok (.istore_n 2, 1) := by decide +kernel
theorem dX5_inState_2 : decode cX5_inState 2 = .ok (.aload_n 0, 1) := by decide +kernel
theorem dX5_inState_3 : decode cX5_inState 3 = .ok (.getfield 19, 3) := by decide +kernel
theorem dX5_inState_6 : decode cX5_inState 6 = .ok (.invokevirtual 136, 3) := by decide +kernel
theorem dX5_inState_9 : decode cX5_inState 9 = .ok (.astore_n 3, 1) := by decide +kernel
theorem dX5_inState_10 : decode cX5_inState 10 = .ok (.aload_n 3, 1) := by decide +kernel
theorem dX5_inState_11 : decode cX5_inState 11 = .ok (.invokeinterface 140 1, 5) := by decide +kernel
theorem dX5_inState_16 : decode cX5_inState 16 = .ok (.ifCond .eq 77, 3) := by decide +kernel
theorem dX5_inState_19 : decode cX5_inState 19 = .ok (.aload_n 3, 1) := by decide +kernel
theorem dX5_inState_20 : decode cX5_inState 20 = .ok (.invokeinterface 146 1, 5) := by decide +kernel
theorem dX5_inState_25 : decode cX5_inState 25 = .ok (.checkcast 91, 3) := by decide +kernel
theorem dX5_inState_28 : decode cX5_inState 28 = .ok (.astore 4, 2) := by decide +kernel
theorem dX5_inState_30 : decode cX5_inState 30 = .ok (.aload 4, 2) := by decide +kernel
theorem dX5_inState_32 : decode cX5_inState 32 = .ok (.astore 5, 2) := by decide +kernel
theorem dX5_inState_34 : decode cX5_inState 34 = .ok (.aload 5, 2) := by decide +kernel
theorem dX5_inState_36 : decode cX5_inState 36 = .ok (.arraylength, 1) := by decide +kernel
theorem dX5_inState_37 : decode cX5_inState 37 = .ok (.istore 6, 2) := by decide +kernel
theorem dX5_inState_39 : decode cX5_inState 39 = .ok (.iconst 0, 1) := by decide +kernel
theorem dX5_inState_40 : decode cX5_inState 40 = .ok (.istore 7, 2) := by decide +kernel
theorem dX5_inState_42 : decode cX5_inState 42 = .ok (.iload 7, 2) := by decide +kernel
theorem dX5_inState_44 : decode cX5_inState 44 = .ok (.iload 6, 2) := by decide +kernel
theorem dX5_inState_46 : decode cX5_inState 46 = .ok (.if_icmp .ge 44, 3) := by decide +kernel
theorem dX5_inState_49 : decode cX5_inState 49 = .ok (.aload 5, 2) := by decide +kernel
theorem dX5_inState_51 : decode cX5_inState 51 = .ok (.iload 7, 2) := by decide +kernel
theorem dX5_inState_53 : decode cX5_inState 53 = .ok (.aaload, 1) := by decide +kernel
theorem dX5_inState_54 : decode cX5_inState 54 = .ok (.astore 8, 2) := by decide +kernel
theorem dX5_inState_56 : decode cX5_inState 56 = .ok (.iload_n 2, 1) := by decide +kernel
theorem dX5_inState_57 : decode cX5_inState 57 = .ok (.aload 8, 2) := by decide +kernel
theorem dX5_inState_59 : decode cX5_inState 59 = .ok (.getfield 67, 3) := by decide +kernel
theorem dX5_inState_62 : decode cX5_inState 62 = .ok (.invokevirtual 219, 3) := by decide +kernel
theorem dX5_inState_65 : decode cX5_inState 65 = .ok (.ifCond .ne 16, 3) := by decide +kernel
theorem dX5_inState_68 : decode cX5_inState 68 = .ok (.aload 8, 2) := by decide +kernel
theorem dX5_inState_70 : decode cX5_inState 70 = .ok (.getfield 93, 3) := by decide +kernel
theorem dX5_inState_73 : decode cX5_inState 73 = .ok (.iload_n 1, 1) := by decide +kernel
theorem dX5_inState_74 : decode cX5_inState 74 = .ok (.if_icmp .ne 7, 3) := by decide +kernel
theorem dX5_inState_77 : decode cX5_inState 77 = .ok (.iconst 1, 1) := by decide +kernel
theorem dX5_inState_78 : decode cX5_inState 78 = .ok (.goto 4, 3) := by decide +kernel
theorem dX5_inState_81 : decode cX5_inState 81 = .ok (.iconst 0, 1) := by decide +kernel
theorem dX5_inState_82 : decode cX5_inState 82 = .ok (.iadd, 1) := by decide +kernel
theorem dX5_inState_83 : decode cX5_inState 83 = .ok (.istore_n 2, 1) := by decide +kernel
theorem dX5_inState_84 : decode cX5_inState 84 = .ok (.iinc 7 1, 3) := by decide +kernel
theorem dX5_inState_87 : decode cX5_inState 87 = .ok (.goto (-45), 3) := by decide +kernel
theorem dX5_inState_90 : decode cX5_inState 90 = .ok (.goto (-80), 3) := by decide +kernel
theorem dX5_inState_93 : decode cX5_inState 93 = .ok (.iload_n 2, 1) := by decide +kernel
theorem dX5_inState_94 : decode cX5_inState 94 = .ok (.ireturn, 1) := by decide +kernel
theorem dX5_manyNow_0 : decode cX5_manyNow 0 = .ok (.iconst 0, 1) := by decide +kernel
theorem dX5_manyNow_1 : decode cX5_manyNow 1 = .ok (.istore_n 2, 1) := by decide +kernel
theorem dX5_manyNow_2 : decode cX5_manyNow 2 = .ok (.iload_n 1, 1) := by decide +kernel
theorem dX5_manyNow_3 : decode cX5_manyNow 3 = .ok (.tableswitch 246 0 11 #[61, 69, 106, 114, 114, 114, 114, 166, 174, 174, 174, 183], 61) := by decide +kernel
theorem dX5_manyNow_64 : decode cX5_manyNow 64 = .ok (.aload_n 0, 1) := by decide +kernel
theorem dX5_manyNow_65 : decode cX5_manyNow 65 = .ok (.getfield 10, 3) := by decide +kernel
theorem dX5_manyNow_68 : decode cX5_manyNow 68 = .ok (.invokevirtual 37, 3) := by decide +kernel
theorem dX5_manyNow_71 : decode cX5_manyNow 71 = .ok (.ireturn, 1) := by decide +kernel
theorem dX5_manyNow_72 : decode cX5_manyNow 72 = .ok (.iconst 0, 1) := by decide +kernel
theorem dX5_manyNow_73 : decode cX5_manyNow 73 = .ok (.istore_n 3, 1) := by decide +kernel
theorem dX5_manyNow_74 : decode cX5_manyNow 74 = .ok (.iload_n 3, 1) := by decide +kernel
theorem dX5_manyNow_75 : decode cX5_manyNow 75 = .ok (.aload_n 0, 1) := by decide +kernel
theorem dX5_manyNow_76 : decode cX5_manyNow 76 = .ok (.getfield 10, 3) := by decide +kernel
theorem dX5_manyNow_79 : decode cX5_manyNow 79 = .ok (.invokevirtual 37, 3) := by decide +kernel
theorem dX5_manyNow_82 : decode cX5_manyNow 82 = .ok (.if_icmp .ge 25, 3) := by decide +kernel
theorem dX5_manyNow_85 : decode cX5_manyNow 85 = .ok (.iload_n 2, 1) := by decide +kernel
theorem dX5_manyNow_86 : decode cX5_manyNow 86 = .ok (.aload_n 0, 1) := by decide +kernel
theorem dX5_manyNow_87 : decode cX5_manyNow 87 = .ok (.iload_n 3, 1) := by decide +kernel
theorem dX5_manyNow_88 : decode cX5_manyNow 88 = .ok (.invokevirtual 188, 3) := by decide +kernel
theorem dX5_manyNow_91 : decode cX5_manyNow 91 = .ok (.ifCond .le 7, 3) := by decide +kernel
theorem dX5_manyNow_94 : decode cX5_manyNow 94 = .ok (.iconst 1, 1) := by decide +kernel
theorem dX5_manyNow_95 : decode cX5_manyNow 95 = .ok (.goto 4, 3) := by decide +kernel
theorem dX5_manyNow_98 : decode cX5_manyNow 98 = .ok (.iconst 0, 1) := by decide +kernel
theorem dX5_manyNow_99 : decode cX5_manyNow 99 = .ok (.iadd, 1) := by decide +kernel
theorem dX5_manyNow_100 : decode cX5_manyNow 100 = .ok (.istore_n 2, 1) := by decide +kernel
theorem dX5_manyNow_101 : decode cX5_manyNow 101 = .ok (.iinc 3 1, 3) := by decide +kernel
theorem dX5_manyNow_104 : decode cX5_manyNow 104 = .ok (.goto (-30), 3) := by decide +kernel
theorem dX5_manyNow_107 : decode cX5_manyNow 107 = .ok (.iload_n 2, 1) := by decide +kernel
theorem dX5_manyNow_108 : decode cX5_manyNow 108 = .ok (.ireturn, 1) := by decide +kernel
theorem dX5_manyNow_109 : decode cX5_manyNow 109 = .ok (.aload_n 0, 1) := by decide +kernel
theorem dX5_manyNow_110 : decode cX5_manyNow 110 = .ok (.getfield 16, 3) := by decide +kernel
theorem dX5_manyNow_113 : decode cX5_manyNow 113 = .ok (.invokevirtual 37, 3) := by decide +kernel
theorem dX5_manyNow_116 : decode cX5_manyNow 116 = .ok (.ireturn, 1) := by decide +kernel
theorem dX5_manyNow_117 : decode cX5_manyNow 117 = .ok (.aload_n 0, 1) := by decide +kernel
theorem dX5_manyNow_118 : decode cX5_manyNow 118 = .ok (.getfield 16, 3) := by decide +kernel
theorem dX5_manyNow_121 : decode cX5_manyNow 121 = .ok (.invokevirtual 136, 3) := by decide +kernel
theorem dX5_manyNow_124 : decode cX5_manyNow 124 = .ok (.astore_n 3, 1) := by decide +kernel
theorem dX5_manyNow_125 : decode cX5_manyNow 125 = .ok (.aload_n 3, 1) := by decide +kernel
theorem dX5_manyNow_126 : decode cX5_manyNow 126 = .ok (.invokeinterface 140 1, 5) := by decide +kernel
theorem dX5_manyNow_131 : decode cX5_manyNow 131 = .ok (.ifCond .eq 36, 3) := by decide +kernel
theorem dX5_manyNow_134 : decode cX5_manyNow 134 = .ok (.aload_n 3, 1) := by decide +kernel
theorem dX5_manyNow_135 : decode cX5_manyNow 135 = .ok (.invokeinterface 146 1, 5) := by decide +kernel
theorem dX5_manyNow_140 : decode cX5_manyNow 140 = .ok (.checkcast 27, 3) := by decide +kernel
theorem dX5_manyNow_143 : decode cX5_manyNow 143 = .ok (.astore 4, 2) := by decide +kernel
theorem dX5_manyNow_145 : decode cX5_manyNow 145 = .ok (.iload_n 2, 1) := by decide +kernel
theorem dX5_manyNow_146 : decode cX5_manyNow 146 = .ok (.aload 4, 2) := by decide +kernel
theorem dX5_manyNow_148 : decode cX5_manyNow 148 = .ok (.getfield 34, 3) := by decide +kernel
theorem dX5_manyNow_151 : decode cX5_manyNow 151 = .ok (.iload_n 1, 1) := by decide +kernel
theorem dX5_manyNow_152 : decode cX5_manyNow 152 = .ok (.iconst 3, 1) := by decide +kernel
theorem dX5_manyNow_153 : decode cX5_manyNow 153 = .ok (.isub, 1) := by decide +kernel
theorem dX5_manyNow_154 : decode cX5_manyNow 154 = .ok (.if_icmp .ne 7, 3) := by decide +kernel
theorem dX5_manyNow_157 : decode cX5_manyNow 157 = .ok (.iconst 1, 1) := by decide +kernel
theorem dX5_manyNow_158 : decode cX5_manyNow 158 = .ok (.goto 4, 3) := by decide +kernel
theorem dX5_manyNow_161 : decode cX5_manyNow 161 = .ok (.iconst 0, 1) := by decide +kernel
theorem dX5_manyNow_162 : decode cX5_manyNow 162 = .ok (.iadd, 1) := by decide +kernel
theorem dX5_manyNow_163 : decode cX5_manyNow 163 = .ok (.istore_n 2, 1) := by decide +kernel
theorem dX5_manyNow_164 : decode cX5_manyNow 164 = .ok (.goto (-39), 3) := by decide +kernel
theorem dX5_manyNow_167 : decode cX5_manyNow 167 = .ok (.iload_n 2, 1) := by decide +kernel
theorem dX5_manyNow_168 : decode cX5_manyNow 168 = .ok (.ireturn, 1) := by decide +kernel
theorem dX5_manyNow_169 : decode cX5_manyNow 169 = .ok (.aload_n 0, 1) := by decide +kernel
theorem dX5_manyNow_170 : decode cX5_manyNow 170 = .ok (.getfield 19, 3) := by decide +kernel
theorem dX5_manyNow_173 : decode cX5_manyNow 173 = .ok (.invokevirtual 37, 3) := by decide +kernel
theorem dX5_manyNow_176 : decode cX5_manyNow 176 = .ok (.ireturn, 1) := by decide +kernel
theorem dX5_manyNow_177 : decode cX5_manyNow 177 = .ok (.aload_n 0, 1) := by decide +kernel
theorem dX5_manyNow_178 : decode cX5_manyNow 178 = .ok (.iload_n 1, 1) := by decide +kernel
theorem dX5_manyNow_179 : decode cX5_manyNow 179 = .ok (.bipush 8, 2) := by decide +kernel
theorem dX5_manyNow_181 : decode cX5_manyNow 181 = .ok (.isub, 1) := by decide +kernel
theorem dX5_manyNow_182 : decode cX5_manyNow 182 = .ok (.invokevirtual 249, 3) := by decide +kernel
theorem dX5_manyNow_185 : decode cX5_manyNow 185 = .ok (.ireturn, 1) := by decide +kernel
theorem dX5_manyNow_186 : decode cX5_manyNow 186 = .ok (.aload_n 0, 1) := by decide +kernel
theorem dX5_manyNow_187 : decode cX5_manyNow 187 = .ok (.getfield 19, 3) := by decide +kernel
theorem dX5_manyNow_190 : decode cX5_manyNow 190 = .ok (.invokevirtual 136, 3) := by decide +kernel
theorem dX5_manyNow_193 : decode cX5_manyNow 193 = .ok (.astore_n 3, 1) := by decide +kernel
theorem dX5_manyNow_194 : decode cX5_manyNow 194 = .ok (.aload_n 3, 1) := by decide +kernel
theorem dX5_manyNow_195 : decode cX5_manyNow 195 = .ok (.invokeinterface 140 1, 5) := by decide +kernel
theorem dX5_manyNow_200 : decode cX5_manyNow 200 = .ok (.ifCond .eq 47, 3) := by decide +kernel
theorem dX5_manyNow_203 : decode cX5_manyNow 203 = .ok (.aload_n 3, 1) := by decide +kernel
theorem dX5_manyNow_204 : decode cX5_manyNow 204 = .ok (.invokeinterface 146 1, 5) := by decide +kernel
theorem dX5_manyNow_209 : decode cX5_manyNow 209 = .ok (.checkcast 91, 3) := by decide +kernel
theorem dX5_manyNow_212 : decode cX5_manyNow 212 = .ok (.astore 4, 2) := by decide +kernel
theorem dX5_manyNow_214 : decode cX5_manyNow 214 = .ok (.iconst 0, 1) := by decide +kernel
theorem dX5_manyNow_215 : decode cX5_manyNow 215 = .ok (.istore 5, 2) := by decide +kernel
theorem dX5_manyNow_217 : decode cX5_manyNow 217 = .ok (.iload 5, 2) := by decide +kernel
theorem dX5_manyNow_219 : decode cX5_manyNow 219 = .ok (.iconst 3, 1) := by decide +kernel
theorem dX5_manyNow_220 : decode cX5_manyNow 220 = .ok (.if_icmp .ge 24, 3) := by decide +kernel
theorem dX5_manyNow_223 : decode cX5_manyNow 223 = .ok (.iload_n 2, 1) := by decide +kernel
theorem dX5_manyNow_224 : decode cX5_manyNow 224 = .ok (.aload_n 0, 1) := by decide +kernel
theorem dX5_manyNow_225 : decode cX5_manyNow 225 = .ok (.aload 4, 2) := by decide +kernel
theorem dX5_manyNow_227 : decode cX5_manyNow 227 = .ok (.iload 5, 2) := by decide +kernel
theorem dX5_manyNow_229 : decode cX5_manyNow 229 = .ok (.aaload, 1) := by decide +kernel
theorem dX5_manyNow_230 : decode cX5_manyNow 230 = .ok (.iload 5, 2) := by decide +kernel
theorem dX5_manyNow_232 : decode cX5_manyNow 232 = .ok (.iconst 2, 1) := by decide +kernel
theorem dX5_manyNow_233 : decode cX5_manyNow 233 = .ok (.invokevirtual 241, 3) := by decide +kernel
theorem dX5_manyNow_236 : decode cX5_manyNow 236 = .ok (.iadd, 1) := by decide +kernel
theorem dX5_manyNow_237 : decode cX5_manyNow 237 = .ok (.istore_n 2, 1) := by decide +kernel
theorem dX5_manyNow_238 : decode cX5_manyNow 238 = .ok (.iinc 5 1, 3) := by decide +kernel
theorem dX5_manyNow_241 : decode cX5_manyNow 241 = .ok (.goto (-24), 3) := by decide +kernel
theorem dX5_manyNow_244 : decode cX5_manyNow 244 = .ok (.goto (-50), 3) := by decide +kernel
theorem dX5_manyNow_247 : decode cX5_manyNow 247 = .ok (.iload_n 2, 1) := by decide +kernel
theorem dX5_manyNow_248 : decode cX5_manyNow 248 = .ok (.ireturn, 1) := by decide +kernel
theorem dX5_manyNow_249 : decode cX5_manyNow 249 = .ok (.aload_n 0, 1) := by decide +kernel
theorem dX5_manyNow_250 : decode cX5_manyNow 250 = .ok (.getfield 102, 3) := by decide +kernel
theorem dX5_manyNow_253 : decode cX5_manyNow 253 = .ok (.ireturn, 1) := by decide +kernel
theorem dX5_many_0 : decode cX5_many 0 = .ok (.aload_n 0, 1) := by decide +kernel
theorem dX5_many_1 : decode cX5_many 1 = .ok (.iconst 0, 1) := by decide +kernel
theorem dX5_many_2 : decode cX5_many 2 = .ok (.putfield 22, 3) := by decide +kernel
theorem dX5_many_5 : decode cX5_many 5 = .ok (.iload_n 1, 1) := by decide +kernel
theorem dX5_many_6 : decode cX5_many 6 = .ok (.iconst 0, 1) := by decide +kernel
theorem dX5_many_7 : decode cX5_many 7 = .ok (.bipush 12, 2) := by decide +kernel
theorem dX5_many_9 : decode cX5_many 9 = .ok (.invokestatic 112, 3) := by decide +kernel
theorem dX5_many_12 : decode cX5_many 12 = .ok (.ifCond .eq 11, 3) := by decide +kernel
theorem dX5_many_15 : decode cX5_many 15 = .ok (.aload_n 0, 1) := by decide +kernel
theorem dX5_many_16 : decode cX5_many 16 = .ok (.iload_n 1, 1) := by decide +kernel
theorem dX5_many_17 : decode cX5_many 17 = .ok (.invokevirtual 252, 3) := by decide +kernel
theorem dX5_many_20 : decode cX5_many 20 = .ok (.goto 8, 3) := by decide +kernel
theorem dX5_many_23 : decode cX5_many 23 = .ok (.aload_n 0, 1) := by decide +kernel
theorem dX5_many_24 : decode cX5_many 24 = .ok (.iconst 1, 1) := by decide +kernel
theorem dX5_many_25 : decode cX5_many 25 = .ok (.invokevirtual 119, 3) := by decide +kernel
theorem dX5_many_28 : decode cX5_many 28 = .ok (.ireturn, 1) := by decide +kernel
theorem dX5_meanConsistency_0 : decode cX5_meanConsistency 0 = .ok (.aload_n 0, 1) := by decide +kernel
theorem dX5_meanConsistency_1 : decode cX5_meanConsistency 1 = .ok (.iconst 0, 1) := by decide +kernel
theorem dX5_meanConsistency_2 : decode cX5_meanConsistency 2 = .ok (.putfield 22, 3) := by decide +kernel
theorem dX5_meanConsistency_5 : decode cX5_meanConsistency 5 = .ok (.iconst 0, 1) := by decide +kernel
theorem dX5_meanConsistency_6 : decode cX5_meanConsistency 6 = .ok (.istore_n 1, 1) := by decide +kernel
theorem dX5_meanConsistency_7 : decode cX5_meanConsistency 7 = .ok (.iconst 0, 1) := by decide +kernel
theorem dX5_meanConsistency_8 : decode cX5_meanConsistency 8 = .ok (.istore_n 2, 1) := by decide +kernel
theorem dX5_meanConsistency_9 : decode cX5_meanConsistency 9 = .ok (.aload_n 0, 1) := by decide +kernel
theorem dX5_meanConsistency_10 : decode cX5_meanConsistency 10 = .ok (.getfield 19, 3) := by decide +kernel
theorem dX5_meanConsistency_13 : decode cX5_meanConsistency 13 = .ok (.invokevirtual 136, 3) := by decide +kernel
theorem dX5_meanConsistency_16 : decode cX5_meanConsistency 16 = .ok (.astore_n 3, 1) := by decide +kernel
theorem dX5_meanConsistency_17 : decode cX5_meanConsistency 17 = .ok (.aload_n 3, 1) := by decide +kernel
theorem dX5_meanConsistency_18 : decode cX5_meanConsistency 18 = .ok (.invokeinterface 140 1, 5) := by decide +kernel
theorem dX5_meanConsistency_23 : decode cX5_meanConsistency 23 = .ok (.ifCond .eq 66, 3) := by decide +kernel
theorem dX5_meanConsistency_26 : decode cX5_meanConsistency 26 = .ok (.aload_n 3, 1) := by decide +kernel
theorem dX5_meanConsistency_27 : decode cX5_meanConsistency 27 = .ok (.invokeinterface 146 1, 5) := by decide +kernel
theorem dX5_meanConsistency_32 : decode cX5_meanConsistency 32 = .ok (.checkcast 91, 3) := by decide +kernel
theorem dX5_meanConsistency_35 : decode cX5_meanConsistency 35 = .ok (.astore 4, 2) := by decide +kernel
theorem dX5_meanConsistency_37 : decode cX5_meanConsistency 37 = .ok (.iconst 0, 1) := by decide +kernel
theorem dX5_meanConsistency_38 : decode cX5_meanConsistency 38 = .ok (.istore 5, 2) := by decide +kernel
theorem dX5_meanConsistency_40 : decode cX5_meanConsistency 40 = .ok (.iload 5, 2) := by decide +kernel
theorem dX5_meanConsistency_42 : decode cX5_meanConsistency 42 = .ok (.iconst 3, 1) := by decide +kernel
theorem dX5_meanConsistency_43 : decode cX5_meanConsistency 43 = .ok (.if_icmp .ge 43, 3) := by decide +kernel
theorem dX5_meanConsistency_46 : decode cX5_meanConsistency 46 = .ok (.aload 4, 2) := by decide +kernel
theorem dX5_meanConsistency_48 : decode cX5_meanConsistency 48 = .ok (.iload 5, 2) := by decide +kernel
theorem dX5_meanConsistency_50 : decode cX5_meanConsistency 50 = .ok (.aaload, 1) := by decide +kernel
theorem dX5_meanConsistency_51 : decode cX5_meanConsistency 51 = .ok (.getfield 67, 3) := by decide +kernel
theorem dX5_meanConsistency_54 : decode cX5_meanConsistency 54 = .ok (.invokevirtual 219, 3) := by decide +kernel
theorem dX5_meanConsistency_57 : decode cX5_meanConsistency 57 = .ok (.ifCond .eq 6, 3) := by decide +kernel
theorem dX5_meanConsistency_60 : decode cX5_meanConsistency 60 = .ok (.goto 20, 3) := by decide +kernel
theorem dX5_meanConsistency_63 : decode cX5_meanConsistency 63 = .ok (.iinc 1 1, 3) := by decide +kernel
theorem dX5_meanConsistency_66 : decode cX5_meanConsistency 66 = .ok (.iload_n 2, 1) := by decide +kernel
theorem dX5_meanConsistency_67 : decode cX5_meanConsistency 67 = .ok (.aload_n 0, 1) := by decide +kernel
theorem dX5_meanConsistency_68 : decode cX5_meanConsistency 68 = .ok (.aload 4, 2) := by decide +kernel
theorem dX5_meanConsistency_70 : decode cX5_meanConsistency 70 = .ok (.iload 5, 2) := by decide +kernel
theorem dX5_meanConsistency_72 : decode cX5_meanConsistency 72 = .ok (.aaload, 1) := by decide +kernel
theorem dX5_meanConsistency_73 : decode cX5_meanConsistency 73 = .ok (.iload 5, 2) := by decide +kernel
theorem dX5_meanConsistency_75 : decode cX5_meanConsistency 75 = .ok (.invokevirtual 225, 3) := by decide +kernel
theorem dX5_meanConsistency_78 : decode cX5_meanConsistency 78 = .ok (.iadd, 1) := by decide +kernel
theorem dX5_meanConsistency_79 : decode cX5_meanConsistency 79 = .ok (.istore_n 2, 1) := by decide +kernel
theorem dX5_meanConsistency_80 : decode cX5_meanConsistency 80 = .ok (.iinc 5 1, 3) := by decide +kernel
theorem dX5_meanConsistency_83 : decode cX5_meanConsistency 83 = .ok (.goto (-43), 3) := by decide +kernel
theorem dX5_meanConsistency_86 : decode cX5_meanConsistency 86 = .ok (.goto (-69), 3) := by decide +kernel
theorem dX5_meanConsistency_89 : decode cX5_meanConsistency 89 = .ok (.iload_n 1, 1) := by decide +kernel
theorem dX5_meanConsistency_90 : decode cX5_meanConsistency 90 = .ok (.ifCond .ne 7, 3) := by decide +kernel
theorem dX5_meanConsistency_93 : decode cX5_meanConsistency 93 = .ok (.dconst 0, 1) := by decide +kernel
theorem dX5_meanConsistency_94 : decode cX5_meanConsistency 94 = .ok (.goto 8, 3) := by decide +kernel
theorem dX5_meanConsistency_97 : decode cX5_meanConsistency 97 = .ok (.iload_n 2, 1) := by decide +kernel
theorem dX5_meanConsistency_98 : decode cX5_meanConsistency 98 = .ok (.i2d, 1) := by decide +kernel
theorem dX5_meanConsistency_99 : decode cX5_meanConsistency 99 = .ok (.iload_n 1, 1) := by decide +kernel
theorem dX5_meanConsistency_100 : decode cX5_meanConsistency 100 = .ok (.i2d, 1) := by decide +kernel
theorem dX5_meanConsistency_101 : decode cX5_meanConsistency 101 = .ok (.ddiv, 1) := by decide +kernel
theorem dX5_meanConsistency_102 : decode cX5_meanConsistency 102 = .ok (.dreturn, 1) := by decide +kernel
theorem dX5_reopenedBy_0 : decode cX5_reopenedBy 0 = .ok (.aload_n 0, 1) := by decide +kernel
theorem dX5_reopenedBy_1 : decode cX5_reopenedBy 1 = .ok (.iconst 0, 1) := by decide +kernel
theorem dX5_reopenedBy_2 : decode cX5_reopenedBy 2 = .ok (.putfield 22, 3) := by decide +kernel
theorem dX5_reopenedBy_5 : decode cX5_reopenedBy 5 = .ok (.aload_n 0, 1) := by decide +kernel
theorem dX5_reopenedBy_6 : decode cX5_reopenedBy 6 = .ok (.iload_n 1, 1) := by decide +kernel
theorem dX5_reopenedBy_7 : decode cX5_reopenedBy 7 = .ok (.invokevirtual 154, 3) := by decide +kernel
theorem dX5_reopenedBy_10 : decode cX5_reopenedBy 10 = .ok (.ifCond .eq 21, 3) := by decide +kernel
theorem dX5_reopenedBy_13 : decode cX5_reopenedBy 13 = .ok (.aload_n 0, 1) := by decide +kernel
theorem dX5_reopenedBy_14 : decode cX5_reopenedBy 14 = .ok (.aload_n 0, 1) := by decide +kernel
theorem dX5_reopenedBy_15 : decode cX5_reopenedBy 15 = .ok (.getfield 16, 3) := by decide +kernel
theorem dX5_reopenedBy_18 : decode cX5_reopenedBy 18 = .ok (.iload_n 1, 1) := by decide +kernel
theorem dX5_reopenedBy_19 : decode cX5_reopenedBy 19 = .ok (.invokevirtual 41, 3) := by decide +kernel
theorem dX5_reopenedBy_22 : decode cX5_reopenedBy 22 = .ok (.checkcast 27, 3) := by decide +kernel
theorem dX5_reopenedBy_25 : decode cX5_reopenedBy 25 = .ok (.invokevirtual 255, 3) := by decide +kernel
theorem dX5_reopenedBy_28 : decode cX5_reopenedBy 28 = .ok (.goto 8, 3) := by decide +kernel
theorem dX5_reopenedBy_31 : decode cX5_reopenedBy 31 = .ok (.aload_n 0, 1) := by decide +kernel
theorem dX5_reopenedBy_32 : decode cX5_reopenedBy 32 = .ok (.iconst 1, 1) := by decide +kernel
theorem dX5_reopenedBy_33 : decode cX5_reopenedBy 33 = .ok (.invokevirtual 119, 3) := by decide +kernel
theorem dX5_reopenedBy_36 : decode cX5_reopenedBy 36 = .ok (.ireturn, 1) := by decide +kernel
theorem dX5_reopenedIn_0 : decode cX5_reopenedIn 0 = .ok (.aload_n 0, 1) := by decide +kernel
theorem dX5_reopenedIn_1 : decode cX5_reopenedIn 1 = .ok (.iconst 0, 1) := by decide +kernel
theorem dX5_reopenedIn_2 : decode cX5_reopenedIn 2 = .ok (.putfield 22, 3) := by decide +kernel
theorem dX5_reopenedIn_5 : decode cX5_reopenedIn 5 = .ok (.iload_n 1, 1) := by decide +kernel
theorem dX5_reopenedIn_6 : decode cX5_reopenedIn 6 = .ok (.iconst 1, 1) := by decide +kernel
theorem dX5_reopenedIn_7 : decode cX5_reopenedIn 7 = .ok (.bipush 40, 2) := by decide +kernel
theorem dX5_reopenedIn_9 : decode cX5_reopenedIn 9 = .ok (.invokestatic 112, 3) := by decide +kernel
theorem dX5_reopenedIn_12 : decode cX5_reopenedIn 12 = .ok (.ifCond .eq 20, 3) := by decide +kernel
theorem dX5_reopenedIn_15 : decode cX5_reopenedIn 15 = .ok (.aload_n 0, 1) := by decide +kernel
theorem dX5_reopenedIn_16 : decode cX5_reopenedIn 16 = .ok (.aload_n 0, 1) := by decide +kernel
theorem dX5_reopenedIn_17 : decode cX5_reopenedIn 17 = .ok (.aload_n 0, 1) := by decide +kernel
theorem dX5_reopenedIn_18 : decode cX5_reopenedIn 18 = .ok (.getfield 102, 3) := by decide +kernel
theorem dX5_reopenedIn_21 : decode cX5_reopenedIn 21 = .ok (.iload_n 1, 1) := by decide +kernel
theorem dX5_reopenedIn_22 : decode cX5_reopenedIn 22 = .ok (.iadd, 1) := by decide +kernel
theorem dX5_reopenedIn_23 : decode cX5_reopenedIn 23 = .ok (.invokevirtual 105, 3) := by decide +kernel
theorem dX5_reopenedIn_26 : decode cX5_reopenedIn 26 = .ok (.invokevirtual 109, 3) := by decide +kernel
theorem dX5_reopenedIn_29 : decode cX5_reopenedIn 29 = .ok (.goto 8, 3) := by decide +kernel
theorem dX5_reopenedIn_32 : decode cX5_reopenedIn 32 = .ok (.aload_n 0, 1) := by decide +kernel
theorem dX5_reopenedIn_33 : decode cX5_reopenedIn 33 = .ok (.iconst 1, 1) := by decide +kernel
theorem dX5_reopenedIn_34 : decode cX5_reopenedIn 34 = .ok (.invokevirtual 119, 3) := by decide +kernel
theorem dX5_reopenedIn_37 : decode cX5_reopenedIn 37 = .ok (.ireturn, 1) := by decide +kernel
theorem dX5_changedBy_0 : decode cX5_changedBy 0 = .ok (.aload_n 0, 1) := by decide +kernel
theorem dX5_changedBy_1 : decode cX5_changedBy 1 = .ok (.iconst 0, 1) := by decide +kernel
theorem dX5_changedBy_2 : decode cX5_changedBy 2 = .ok (.putfield 22, 3) := by decide +kernel
theorem dX5_changedBy_5 : decode cX5_changedBy 5 = .ok (.aload_n 0, 1) := by decide +kernel
theorem dX5_changedBy_6 : decode cX5_changedBy 6 = .ok (.iload_n 1, 1) := by decide +kernel
theorem dX5_changedBy_7 : decode cX5_changedBy 7 = .ok (.invokevirtual 130, 3) := by decide +kernel
theorem dX5_changedBy_10 : decode cX5_changedBy 10 = .ok (.ifCond .eq 11, 3) := by decide +kernel
theorem dX5_changedBy_13 : decode cX5_changedBy 13 = .ok (.aload_n 0, 1) := by decide +kernel
theorem dX5_changedBy_14 : decode cX5_changedBy 14 = .ok (.iload_n 2, 1) := by decide +kernel
theorem dX5_changedBy_15 : decode cX5_changedBy 15 = .ok (.invokevirtual 130, 3) := by decide +kernel
theorem dX5_changedBy_18 : decode cX5_changedBy 18 = .ok (.ifCond .ne 9, 3) := by decide +kernel
theorem dX5_changedBy_21 : decode cX5_changedBy 21 = .ok (.aload_n 0, 1) := by decide +kernel
theorem dX5_changedBy_22 : decode cX5_changedBy 22 = .ok (.iconst 1, 1) := by decide +kernel
theorem dX5_changedBy_23 : decode cX5_changedBy 23 = .ok (.invokevirtual 119, 3) := by decide +kernel
theorem dX5_changedBy_26 : decode cX5_changedBy 26 = .ok (.ireturn, 1) := by decide +kernel
theorem dX5_changedBy_27 : decode cX5_changedBy 27 = .ok (.iload_n 1, 1) := by decide +kernel
theorem dX5_changedBy_28 : decode cX5_changedBy 28 = .ok (.iload_n 2, 1) := by decide +kernel
theorem dX5_changedBy_29 : decode cX5_changedBy 29 = .ok (.if_icmp .ne 9, 3) := by decide +kernel
theorem dX5_changedBy_32 : decode cX5_changedBy 32 = .ok (.aload_n 0, 1) := by decide +kernel
theorem dX5_changedBy_33 : decode cX5_changedBy 33 = .ok (.iconst 2, 1) := by decide +kernel
theorem dX5_changedBy_34 : decode cX5_changedBy 34 = .ok (.invokevirtual 119, 3) := by decide +kernel
theorem dX5_changedBy_37 : decode cX5_changedBy 37 = .ok (.ireturn, 1) := by decide +kernel
theorem dX5_changedBy_38 : decode cX5_changedBy 38 = .ok (.aload_n 0, 1) := by decide +kernel
theorem dX5_changedBy_39 : decode cX5_changedBy 39 = .ok (.iload_n 1, 1) := by decide +kernel
theorem dX5_changedBy_40 : decode cX5_changedBy 40 = .ok (.iload_n 2, 1) := by decide +kernel
theorem dX5_changedBy_41 : decode cX5_changedBy 41 = .ok (.invokevirtual 201, 3) := by decide +kernel
theorem dX5_changedBy_44 : decode cX5_changedBy 44 = .ok (.ifCond .ne 5, 3) := by decide +kernel
theorem dX5_changedBy_47 : decode cX5_changedBy 47 = .ok (.iconst (-1), 1) := by decide +kernel
theorem dX5_changedBy_48 : decode cX5_changedBy 48 = .ok (.ireturn, 1) := by decide +kernel
theorem dX5_changedBy_49 : decode cX5_changedBy 49 = .ok (.aload_n 0, 1) := by decide +kernel
theorem dX5_changedBy_50 : decode cX5_changedBy 50 = .ok (.invokevirtual 264, 3) := by decide +kernel
theorem dX5_changedBy_53 : decode cX5_changedBy 53 = .ok (.astore_n 3, 1) := by decide +kernel
theorem dX5_changedBy_54 : decode cX5_changedBy 54 = .ok (.aload_n 0, 1) := by decide +kernel
theorem dX5_changedBy_55 : decode cX5_changedBy 55 = .ok (.getfield 16, 3) := by decide +kernel
theorem dX5_changedBy_58 : decode cX5_changedBy 58 = .ok (.invokevirtual 37, 3) := by decide +kernel
theorem dX5_changedBy_61 : decode cX5_changedBy 61 = .ok (.newarray .int, 2) := by decide +kernel
theorem dX5_changedBy_63 : decode cX5_changedBy 63 = .ok (.astore 4, 2) := by decide +kernel
theorem dX5_changedBy_65 : decode cX5_changedBy 65 = .ok (.aload_n 0, 1) := by decide +kernel
theorem dX5_changedBy_66 : decode cX5_changedBy 66 = .ok (.getfield 16, 3) := by decide +kernel
theorem dX5_changedBy_69 : decode cX5_changedBy 69 = .ok (.invokevirtual 37, 3) := by decide +kernel
theorem dX5_changedBy_72 : decode cX5_changedBy 72 = .ok (.newarray .int, 2) := by decide +kernel
theorem dX5_changedBy_74 : decode cX5_changedBy 74 = .ok (.astore 5, 2) := by decide +kernel
theorem dX5_changedBy_76 : decode cX5_changedBy 76 = .ok (.aload_n 0, 1) := by decide +kernel
theorem dX5_changedBy_77 : decode cX5_changedBy 77 = .ok (.getfield 16, 3) := by decide +kernel
theorem dX5_changedBy_80 : decode cX5_changedBy 80 = .ok (.invokevirtual 136, 3) := by decide +kernel
theorem dX5_changedBy_83 : decode cX5_changedBy 83 = .ok (.astore 6, 2) := by decide +kernel
theorem dX5_changedBy_85 : decode cX5_changedBy 85 = .ok (.aload 6, 2) := by decide +kernel
theorem dX5_changedBy_87 : decode cX5_changedBy 87 = .ok (.invokeinterface 140 1, 5) := by decide +kernel
theorem dX5_changedBy_92 : decode cX5_changedBy 92 = .ok (.ifCond .eq 44, 3) := by decide +kernel
theorem dX5_changedBy_95 : decode cX5_changedBy 95 = .ok (.aload 6, 2) := by decide +kernel
theorem dX5_changedBy_97 : decode cX5_changedBy 97 = .ok (.invokeinterface 146 1, 5) := by decide +kernel
theorem dX5_changedBy_102 : decode cX5_changedBy 102 = .ok (.checkcast 27, 3) := by decide +kernel
theorem dX5_changedBy_105 : decode cX5_changedBy 105 = .ok (.astore 7, 2) := by decide +kernel
theorem dX5_changedBy_107 : decode cX5_changedBy 107 = .ok (.aload 4, 2) := by decide +kernel
theorem dX5_changedBy_109 : decode cX5_changedBy 109 = .ok (.aload 7, 2) := by decide +kernel
theorem dX5_changedBy_111 : decode cX5_changedBy 111 = .ok (.getfield 84, 3) := by decide +kernel
theorem dX5_changedBy_114 : decode cX5_changedBy 114 = .ok (.aload 7, 2) := by decide +kernel
theorem dX5_changedBy_116 : decode cX5_changedBy 116 = .ok (.getfield 49, 3) := by decide +kernel
theorem dX5_changedBy_119 : decode cX5_changedBy 119 = .ok (.iastore, 1) := by decide +kernel
theorem dX5_changedBy_120 : decode cX5_changedBy 120 = .ok (.aload 5, 2) := by decide +kernel
theorem dX5_changedBy_122 : decode cX5_changedBy 122 = .ok (.aload 7, 2) := by decide +kernel
theorem dX5_changedBy_124 : decode cX5_changedBy 124 = .ok (.getfield 84, 3) := by decide +kernel
theorem dX5_changedBy_127 : decode cX5_changedBy 127 = .ok (.aload 7, 2) := by decide +kernel
theorem dX5_changedBy_129 : decode cX5_changedBy 129 = .ok (.getfield 34, 3) := by decide +kernel
theorem dX5_changedBy_132 : decode cX5_changedBy 132 = .ok (.iastore, 1) := by decide +kernel
theorem dX5_changedBy_133 : decode cX5_changedBy 133 = .ok (.goto (-48), 3) := by decide +kernel
theorem dX5_changedBy_136 : decode cX5_changedBy 136 = .ok (.aload_n 0, 1) := by decide +kernel
theorem dX5_changedBy_137 : decode cX5_changedBy 137 = .ok (.iload_n 1, 1) := by decide +kernel
theorem dX5_changedBy_138 : decode cX5_changedBy 138 = .ok (.iload_n 2, 1) := by decide +kernel
theorem dX5_changedBy_139 : decode cX5_changedBy 139 = .ok (.invokevirtual 204, 3) := by decide +kernel
theorem dX5_changedBy_142 : decode cX5_changedBy 142 = .ok (.aload_n 0, 1) := by decide +kernel
theorem dX5_changedBy_143 : decode cX5_changedBy 143 = .ok (.invokevirtual 264, 3) := by decide +kernel
theorem dX5_changedBy_146 : decode cX5_changedBy 146 = .ok (.astore 6, 2) := by decide +kernel
theorem dX5_changedBy_148 : decode cX5_changedBy 148 = .ok (.aload_n 0, 1) := by decide +kernel
theorem dX5_changedBy_149 : decode cX5_changedBy 149 = .ok (.getfield 16, 3) := by decide +kernel
theorem dX5_changedBy_152 : decode cX5_changedBy 152 = .ok (.invokevirtual 136, 3) := by decide +kernel
theorem dX5_changedBy_155 : decode cX5_changedBy 155 = .ok (.astore 7, 2) := by decide +kernel
theorem dX5_changedBy_157 : decode cX5_changedBy 157 = .ok (.aload 7, 2) := by decide +kernel
theorem dX5_changedBy_159 : decode cX5_changedBy 159 = .ok (.invokeinterface 140 1, 5) := by decide +kernel
theorem dX5_changedBy_164 : decode cX5_changedBy 164 = .ok (.ifCond .eq 44, 3) := by decide +kernel
theorem dX5_changedBy_167 : decode cX5_changedBy 167 = .ok (.aload 7, 2) := by decide +kernel
theorem dX5_changedBy_169 : decode cX5_changedBy 169 = .ok (.invokeinterface 146 1, 5) := by decide +kernel
theorem dX5_changedBy_174 : decode cX5_changedBy 174 = .ok (.checkcast 27, 3) := by decide +kernel
theorem dX5_changedBy_177 : decode cX5_changedBy 177 = .ok (.astore 8, 2) := by decide +kernel
theorem dX5_changedBy_179 : decode cX5_changedBy 179 = .ok (.aload 8, 2) := by decide +kernel
theorem dX5_changedBy_181 : decode cX5_changedBy 181 = .ok (.aload 4, 2) := by decide +kernel
theorem dX5_changedBy_183 : decode cX5_changedBy 183 = .ok (.aload 8, 2) := by decide +kernel
theorem dX5_changedBy_185 : decode cX5_changedBy 185 = .ok (.getfield 84, 3) := by decide +kernel
theorem dX5_changedBy_188 : decode cX5_changedBy 188 = .ok (.iaload, 1) := by decide +kernel
theorem dX5_changedBy_189 : decode cX5_changedBy 189 = .ok (.putfield 49, 3) := by decide +kernel
theorem dX5_changedBy_192 : decode cX5_changedBy 192 = .ok (.aload 8, 2) := by decide +kernel
theorem dX5_changedBy_194 : decode cX5_changedBy 194 = .ok (.aload 5, 2) := by decide +kernel
theorem dX5_changedBy_196 : decode cX5_changedBy 196 = .ok (.aload 8, 2) := by decide +kernel
theorem dX5_changedBy_198 : decode cX5_changedBy 198 = .ok (.getfield 84, 3) := by decide +kernel
theorem dX5_changedBy_201 : decode cX5_changedBy 201 = .ok (.iaload, 1) := by decide +kernel
theorem dX5_changedBy_202 : decode cX5_changedBy 202 = .ok (.putfield 34, 3) := by decide +kernel
theorem dX5_changedBy_205 : decode cX5_changedBy 205 = .ok (.goto (-48), 3) := by decide +kernel
theorem dX5_changedBy_208 : decode cX5_changedBy 208 = .ok (.iconst 0, 1) := by decide +kernel
theorem dX5_changedBy_209 : decode cX5_changedBy 209 = .ok (.istore 7, 2) := by decide +kernel
theorem dX5_changedBy_211 : decode cX5_changedBy 211 = .ok (.iconst 0, 1) := by decide +kernel
theorem dX5_changedBy_212 : decode cX5_changedBy 212 = .ok (.istore 8, 2) := by decide +kernel
theorem dX5_changedBy_214 : decode cX5_changedBy 214 = .ok (.iload 8, 2) := by decide +kernel
theorem dX5_changedBy_216 : decode cX5_changedBy 216 = .ok (.aload 6, 2) := by decide +kernel
theorem dX5_changedBy_218 : decode cX5_changedBy 218 = .ok (.arraylength, 1) := by decide +kernel
theorem dX5_changedBy_219 : decode cX5_changedBy 219 = .ok (.if_icmp .ge 31, 3) := by decide +kernel
theorem dX5_changedBy_222 : decode cX5_changedBy 222 = .ok (.iload 7, 2) := by decide +kernel
theorem dX5_changedBy_224 : decode cX5_changedBy 224 = .ok (.aload 6, 2) := by decide +kernel
theorem dX5_changedBy_226 : decode cX5_changedBy 226 = .ok (.iload 8, 2) := by decide +kernel
theorem dX5_changedBy_228 : decode cX5_changedBy 228 = .ok (.iaload, 1) := by decide +kernel
theorem dX5_changedBy_229 : decode cX5_changedBy 229 = .ok (.aload_n 3, 1) := by decide +kernel
theorem dX5_changedBy_230 : decode cX5_changedBy 230 = .ok (.iload 8, 2) := by decide +kernel
theorem dX5_changedBy_232 : decode cX5_changedBy 232 = .ok (.iaload, 1) := by decide +kernel
theorem dX5_changedBy_233 : decode cX5_changedBy 233 = .ok (.if_icmp .eq 7, 3) := by decide +kernel
theorem dX5_changedBy_236 : decode cX5_changedBy 236 = .ok (.iconst 1, 1) := by decide +kernel
theorem dX5_changedBy_237 : decode cX5_changedBy 237 = .ok (.goto 4, 3) := by decide +kernel
theorem dX5_changedBy_240 : decode cX5_changedBy 240 = .ok (.iconst 0, 1) := by decide +kernel
theorem dX5_changedBy_241 : decode cX5_changedBy 241 = .ok (.iadd, 1) := by decide +kernel
theorem dX5_changedBy_242 : decode cX5_changedBy 242 = .ok (.istore 7, 2) := by decide +kernel
theorem dX5_changedBy_244 : decode cX5_changedBy 244 = .ok (.iinc 8 1, 3) := by decide +kernel
theorem dX5_changedBy_247 : decode cX5_changedBy 247 = .ok (.goto (-33), 3) := by decide +kernel
theorem dX5_changedBy_250 : decode cX5_changedBy 250 = .ok (.iload 7, 2) := by decide +kernel
theorem dX5_changedBy_252 : decode cX5_changedBy 252 = .ok (.ireturn, 1) := by decide +kernel
theorem dX5_formFor_0 : decode cX5_formFor 0 = .ok (.aload_n 0, 1) := by decide +kernel
theorem dX5_formFor_1 : decode cX5_formFor 1 = .ok (.iconst 0, 1) := by decide +kernel
theorem dX5_formFor_2 : decode cX5_formFor 2 = .ok (.putfield 22, 3) := by decide +kernel
theorem dX5_formFor_5 : decode cX5_formFor 5 = .ok (.aload_n 0, 1) := by decide +kernel
theorem dX5_formFor_6 : decode cX5_formFor 6 = .ok (.iload_n 1, 1) := by decide +kernel
theorem dX5_formFor_7 : decode cX5_formFor 7 = .ok (.iload_n 2, 1) := by decide +kernel
theorem dX5_formFor_8 : decode cX5_formFor 8 = .ok (.iload_n 3, 1) := by decide +kernel
theorem dX5_formFor_9 : decode cX5_formFor 9 = .ok (.invokevirtual 212, 3) := by decide +kernel
theorem dX5_formFor_12 : decode cX5_formFor 12 = .ok (.ifCond .eq 12, 3) := by decide +kernel
theorem dX5_formFor_15 : decode cX5_formFor 15 = .ok (.aload_n 0, 1) := by decide +kernel
theorem dX5_formFor_16 : decode cX5_formFor 16 = .ok (.iload 4, 2) := by decide +kernel
theorem dX5_formFor_18 : decode cX5_formFor 18 = .ok (.invokevirtual 154, 3) := by decide +kernel
theorem dX5_formFor_21 : decode cX5_formFor 21 = .ok (.ifCond .ne 9, 3) := by decide +kernel
theorem dX5_formFor_24 : decode cX5_formFor 24 = .ok (.aload_n 0, 1) := by decide +kernel
theorem dX5_formFor_25 : decode cX5_formFor 25 = .ok (.iconst 1, 1) := by decide +kernel
theorem dX5_formFor_26 : decode cX5_formFor 26 = .ok (.invokevirtual 119, 3) := by decide +kernel
theorem dX5_formFor_29 : decode cX5_formFor 29 = .ok (.ireturn, 1) := by decide +kernel
theorem dX5_formFor_30 : decode cX5_formFor 30 = .ok (.new 68, 3) := by decide +kernel
theorem dX5_formFor_33 : decode cX5_formFor 33 = .ok (.dup, 1) := by decide +kernel
theorem dX5_formFor_34 : decode cX5_formFor 34 = .ok (.invokespecial 208, 3) := by decide +kernel
theorem dX5_formFor_37 : decode cX5_formFor 37 = .ok (.astore 5, 2) := by decide +kernel
theorem dX5_formFor_39 : decode cX5_formFor 39 = .ok (.aload 5, 2) := by decide +kernel
theorem dX5_formFor_41 : decode cX5_formFor 41 = .ok (.getfield 67, 3) := by decide +kernel
theorem dX5_formFor_44 : decode cX5_formFor 44 = .ok (.aload_n 0, 1) := by decide +kernel
theorem dX5_formFor_45 : decode cX5_formFor 45 = .ok (.getfield 19, 3) := by decide +kernel
theorem dX5_formFor_48 : decode cX5_formFor 48 = .ok (.iload_n 1, 1) := by decide +kernel
theorem dX5_formFor_49 : decode cX5_formFor 49 = .ok (.invokevirtual 41, 3) := by decide +kernel
theorem dX5_formFor_52 : decode cX5_formFor 52 = .ok (.checkcast 91, 3) := by decide +kernel
theorem dX5_formFor_55 : decode cX5_formFor 55 = .ok (.iload_n 2, 1) := by decide +kernel
theorem dX5_formFor_56 : decode cX5_formFor 56 = .ok (.aaload, 1) := by decide +kernel
theorem dX5_formFor_57 : decode cX5_formFor 57 = .ok (.getfield 67, 3) := by decide +kernel
theorem dX5_formFor_60 : decode cX5_formFor 60 = .ok (.invokevirtual 268, 3) := by decide +kernel
theorem dX5_formFor_63 : decode cX5_formFor 63 = .ok (.pop, 1) := by decide +kernel
theorem dX5_formFor_64 : decode cX5_formFor 64 = .ok (.iload_n 3, 1) := by decide +kernel
theorem dX5_formFor_65 : decode cX5_formFor 65 = .ok (.aload 5, 2) := by decide +kernel
theorem dX5_formFor_67 : decode cX5_formFor 67 = .ok (.getfield 67, 3) := by decide +kernel
theorem dX5_formFor_70 : decode cX5_formFor 70 = .ok (.invokevirtual 37, 3) := by decide +kernel
theorem dX5_formFor_73 : decode cX5_formFor 73 = .ok (.if_icmp .ne 16, 3) := by decide +kernel
theorem dX5_formFor_76 : decode cX5_formFor 76 = .ok (.aload 5, 2) := by decide +kernel
theorem dX5_formFor_78 : decode cX5_formFor 78 = .ok (.getfield 67, 3) := by decide +kernel
theorem dX5_formFor_81 : decode cX5_formFor 81 = .ok (.iconst 0, 1) := by decide +kernel
theorem dX5_formFor_82 : decode cX5_formFor 82 = .ok (.invokestatic 122, 3) := by decide +kernel
theorem dX5_formFor_85 : decode cX5_formFor 85 = .ok (.invokevirtual 126, 3) := by decide +kernel
theorem dX5_formFor_88 : decode cX5_formFor 88 = .ok (.pop, 1) := by decide +kernel
theorem dX5_formFor_89 : decode cX5_formFor 89 = .ok (.iconst 4, 1) := by decide +kernel
theorem dX5_formFor_90 : decode cX5_formFor 90 = .ok (.aload_n 0, 1) := by decide +kernel
theorem dX5_formFor_91 : decode cX5_formFor 91 = .ok (.getfield 16, 3) := by decide +kernel
theorem dX5_formFor_94 : decode cX5_formFor 94 = .ok (.iload 4, 2) := by decide +kernel
theorem dX5_formFor_96 : decode cX5_formFor 96 = .ok (.invokevirtual 41, 3) := by decide +kernel
theorem dX5_formFor_99 : decode cX5_formFor 99 = .ok (.checkcast 27, 3) := by decide +kernel
theorem dX5_formFor_102 : decode cX5_formFor 102 = .ok (.getfield 31, 3) := by decide +kernel
theorem dX5_formFor_105 : decode cX5_formFor 105 = .ok (.imul, 1) := by decide +kernel
theorem dX5_formFor_106 : decode cX5_formFor 106 = .ok (.istore 6, 2) := by decide +kernel
theorem dX5_formFor_108 : decode cX5_formFor 108 = .ok (.aload 5, 2) := by decide +kernel
theorem dX5_formFor_110 : decode cX5_formFor 110 = .ok (.getfield 67, 3) := by decide +kernel
theorem dX5_formFor_113 : decode cX5_formFor 113 = .ok (.iload_n 3, 1) := by decide +kernel
theorem dX5_formFor_114 : decode cX5_formFor 114 = .ok (.iload 6, 2) := by decide +kernel
theorem dX5_formFor_116 : decode cX5_formFor 116 = .ok (.invokestatic 122, 3) := by decide +kernel
theorem dX5_formFor_119 : decode cX5_formFor 119 = .ok (.invokevirtual 215, 3) := by decide +kernel
theorem dX5_formFor_122 : decode cX5_formFor 122 = .ok (.pop, 1) := by decide +kernel
theorem dX5_formFor_123 : decode cX5_formFor 123 = .ok (.aload_n 0, 1) := by decide +kernel
theorem dX5_formFor_124 : decode cX5_formFor 124 = .ok (.aload 5, 2) := by decide +kernel
theorem dX5_formFor_126 : decode cX5_formFor 126 = .ok (.iload_n 2, 1) := by decide +kernel
theorem dX5_formFor_127 : decode cX5_formFor 127 = .ok (.iload_n 3, 1) := by decide +kernel
theorem dX5_formFor_128 : decode cX5_formFor 128 = .ok (.invokevirtual 232, 3) := by decide +kernel
theorem dX5_formFor_131 : decode cX5_formFor 131 = .ok (.invokestatic 236, 3) := by decide +kernel
theorem dX5_formFor_134 : decode cX5_formFor 134 = .ok (.iload 4, 2) := by decide +kernel
theorem dX5_formFor_136 : decode cX5_formFor 136 = .ok (.if_icmp .ne 8, 3) := by decide +kernel
theorem dX5_formFor_139 : decode cX5_formFor 139 = .ok (.iload 6, 2) := by decide +kernel
theorem dX5_formFor_141 : decode cX5_formFor 141 = .ok (.goto 4, 3) := by decide +kernel
theorem dX5_formFor_144 : decode cX5_formFor 144 = .ok (.iconst (-1), 1) := by decide +kernel
theorem dX5_formFor_145 : decode cX5_formFor 145 = .ok (.ireturn, 1) := by decide +kernel
theorem dX5_add_0 : decode cX5_add 0 = .ok (.aload_n 0, 1) := by decide +kernel
theorem dX5_add_1 : decode cX5_add 1 = .ok (.aload_n 0, 1) := by decide +kernel
theorem dX5_add_2 : decode cX5_add 2 = .ok (.getfield 272, 3) := by decide +kernel
theorem dX5_add_5 : decode cX5_add 5 = .ok (.ldc2_w 276, 3) := by decide +kernel
theorem dX5_add_8 : decode cX5_add 8 = .ok (.lmul, 1) := by decide +kernel
theorem dX5_add_9 : decode cX5_add 9 = .ok (.iload_n 1, 1) := by decide +kernel
theorem dX5_add_10 : decode cX5_add 10 = .ok (.i2l, 1) := by decide +kernel
theorem dX5_add_11 : decode cX5_add 11 = .ok (.ladd, 1) := by decide +kernel
theorem dX5_add_12 : decode cX5_add 12 = .ok (.putfield 272, 3) := by decide +kernel
theorem dX5_add_15 : decode cX5_add 15 = .ok (.return_, 1) := by decide +kernel
theorem dX5_digest_0 : decode cX5_digest 0 = .ok (.aload_n 0, 1) := by decide +kernel
theorem dX5_digest_1 : decode cX5_digest 1 = .ok (.iconst 0, 1) := by decide +kernel
theorem dX5_digest_2 : decode cX5_digest 2 = .ok (.putfield 22, 3) := by decide +kernel
