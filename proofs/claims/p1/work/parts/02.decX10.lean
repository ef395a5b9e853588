theorem dX1_init_0 : decode cX1_init 0 = .ok (.aload_n 0, 1) := by decide +kernel
theorem dX1_init_1 : decode cX1_init 1 = .ok (.invokespecial 3, 3) := by decide +kernel
theorem dX1_init_4 : decode cX1_init 4 = .ok (.aload_n 0, 1) := by decide +kernel
theorem dX1_init_5 : decode cX1_init 5 = .ok (.iconst 0, 1) := by decide +kernel
theorem dX1_init_6 : decode cX1_init 6 = .ok (.putfield 9, 3) := by decide +kernel
theorem dX1_init_9 : decode cX1_init 9 = .ok (.aload_n 0, 1) := by decide +kernel
theorem dX1_init_10 : decode cX1_init 10 = .ok (.bipush 18, 2) := by decide +kernel
theorem dX1_init_12 : decode cX1_init 12 = .ok (.newarray .int, 2) := by decide +kernel
theorem dX1_init_14 : decode cX1_init 14 = .ok (.putfield 15, 3) := by decide +kernel
theorem dX1_init_17 : decode cX1_init 17 = .ok (.aload_n 0, 1) := by decide +kernel
theorem dX1_init_18 : decode cX1_init 18 = .ok (.bipush 18, 2) := by decide +kernel
theorem dX1_init_20 : decode cX1_init 20 = .ok (.newarray .int, 2) := by decide +kernel
theorem dX1_init_22 : decode cX1_init 22 = .ok (.putfield 19, 3) := by decide +kernel
theorem dX1_init_25 : decode cX1_init 25 = .ok (.aload_n 0, 1) := by decide +kernel
theorem dX1_init_26 : decode cX1_init 26 = .ok (.bipush 18, 2) := by decide +kernel
theorem dX1_init_28 : decode cX1_init 28 = .ok (.bipush 12, 2) := by decide +kernel
theorem dX1_init_30 : decode cX1_init 30 = .ok (.multianewarray 22 2, 4) := by decide +kernel
theorem dX1_init_34 : decode cX1_init 34 = .ok (.putfield 24, 3) := by decide +kernel
theorem dX1_init_37 : decode cX1_init 37 = .ok (.aload_n 0, 1) := by decide +kernel
theorem dX1_init_38 : decode cX1_init 38 = .ok (.bipush 18, 2) := by decide +kernel
theorem dX1_init_40 : decode cX1_init 40 = .ok (.bipush 12, 2) := by decide +kernel
theorem dX1_init_42 : decode cX1_init 42 = .ok (.multianewarray 22 2, 4) := by decide +kernel
theorem dX1_init_46 : decode cX1_init 46 = .ok (.putfield 27, 3) := by decide +kernel
theorem dX1_init_49 : decode cX1_init 49 = .ok (.aload_n 0, 1) := by decide +kernel
theorem dX1_init_50 : decode cX1_init 50 = .ok (.aload_n 1, 1) := by decide +kernel
theorem dX1_init_51 : decode cX1_init 51 = .ok (.putfield 30, 3) := by decide +kernel
theorem dX1_init_54 : decode cX1_init 54 = .ok (.return_, 1) := by decide +kernel
theorem dX1_addDocument_0 : decode cX1_addDocument 0 = .ok (.aload_n 0, 1) := by decide +kernel
theorem dX1_addDocument_1 : decode cX1_addDocument 1 = .ok (.getfield 9, 3) := by decide +kernel
theorem dX1_addDocument_4 : decode cX1_addDocument 4 = .ok (.istore_n 1, 1) := by decide +kernel
theorem dX1_addDocument_5 : decode cX1_addDocument 5 = .ok (.aload_n 0, 1) := by decide +kernel
theorem dX1_addDocument_6 : decode cX1_addDocument 6 = .ok (.dup, 1) := by decide +kernel
theorem dX1_addDocument_7 : decode cX1_addDocument 7 = .ok (.getfield 9, 3) := by decide +kernel
theorem dX1_addDocument_10 : decode cX1_addDocument 10 = .ok (.iconst 1, 1) := by decide +kernel
theorem dX1_addDocument_11 : decode cX1_addDocument 11 = .ok (.iadd, 1) := by decide +kernel
theorem dX1_addDocument_12 : decode cX1_addDocument 12 = .ok (.putfield 9, 3) := by decide +kernel
theorem dX1_addDocument_15 : decode cX1_addDocument 15 = .ok (.iload_n 1, 1) := by decide +kernel
theorem dX1_addDocument_16 : decode cX1_addDocument 16 = .ok (.ireturn, 1) := by decide +kernel
theorem dX1_textCount_0 : decode cX1_textCount 0 = .ok (.aload_n 0, 1) := by decide +kernel
theorem dX1_textCount_1 : decode cX1_textCount 1 = .ok (.getfield 9, 3) := by decide +kernel
theorem dX1_textCount_4 : decode cX1_textCount 4 = .ok (.iconst 3, 1) := by decide +kernel
theorem dX1_textCount_5 : decode cX1_textCount 5 = .ok (.imul, 1) := by decide +kernel
theorem dX1_textCount_6 : decode cX1_textCount 6 = .ok (.ireturn, 1) := by decide +kernel
theorem dX1_placesToWrite_0 : decode cX1_placesToWrite 0 = .ok (.aload_n 0, 1) := by decide +kernel
theorem dX1_placesToWrite_1 : decode cX1_placesToWrite 1 = .ok (.getfield 15, 3) := by decide +kernel
theorem dX1_placesToWrite_4 : decode cX1_placesToWrite 4 = .ok (.iload_n 1, 1) := by decide +kernel
theorem dX1_placesToWrite_5 : decode cX1_placesToWrite 5 = .ok (.iaload, 1) := by decide +kernel
theorem dX1_placesToWrite_6 : decode cX1_placesToWrite 6 = .ok (.iconst 1, 1) := by decide +kernel
theorem dX1_placesToWrite_7 : decode cX1_placesToWrite 7 = .ok (.iadd, 1) := by decide +kernel
theorem dX1_placesToWrite_8 : decode cX1_placesToWrite 8 = .ok (.bipush 12, 2) := by decide +kernel
theorem dX1_placesToWrite_10 : decode cX1_placesToWrite 10 = .ok (.invokestatic 34, 3) := by decide +kernel
theorem dX1_placesToWrite_13 : decode cX1_placesToWrite 13 = .ok (.ireturn, 1) := by decide +kernel
theorem dX1_put_0 : decode cX1_put 0 = .ok (.aload_n 0, 1) := by decide +kernel
theorem dX1_put_1 : decode cX1_put 1 = .ok (.getfield 24, 3) := by decide +kernel
theorem dX1_put_4 : decode cX1_put 4 = .ok (.iload_n 1, 1) := by decide +kernel
theorem dX1_put_5 : decode cX1_put 5 = .ok (.aaload, 1) := by decide +kernel
theorem dX1_put_6 : decode cX1_put 6 = .ok (.iload_n 2, 1) := by decide +kernel
theorem dX1_put_7 : decode cX1_put 7 = .ok (.iload_n 3, 1) := by decide +kernel
theorem dX1_put_8 : decode cX1_put 8 = .ok (.iastore, 1) := by decide +kernel
theorem dX1_put_9 : decode cX1_put 9 = .ok (.iload_n 2, 1) := by decide +kernel
theorem dX1_put_10 : decode cX1_put 10 = .ok (.aload_n 0, 1) := by decide +kernel
theorem dX1_put_11 : decode cX1_put 11 = .ok (.getfield 15, 3) := by decide +kernel
theorem dX1_put_14 : decode cX1_put 14 = .ok (.iload_n 1, 1) := by decide +kernel
theorem dX1_put_15 : decode cX1_put 15 = .ok (.iaload, 1) := by decide +kernel
theorem dX1_put_16 : decode cX1_put 16 = .ok (.if_icmp .ne 13, 3) := by decide +kernel
theorem dX1_put_19 : decode cX1_put 19 = .ok (.aload_n 0, 1) := by decide +kernel
theorem dX1_put_20 : decode cX1_put 20 = .ok (.getfield 15, 3) := by decide +kernel
theorem dX1_put_23 : decode cX1_put 23 = .ok (.iload_n 1, 1) := by decide +kernel
theorem dX1_put_24 : decode cX1_put 24 = .ok (.dup2, 1) := by decide +kernel
theorem dX1_put_25 : decode cX1_put 25 = .ok (.iaload, 1) := by decide +kernel
theorem dX1_put_26 : decode cX1_put 26 = .ok (.iconst 1, 1) := by decide +kernel
theorem dX1_put_27 : decode cX1_put 27 = .ok (.iadd, 1) := by decide +kernel
theorem dX1_put_28 : decode cX1_put 28 = .ok (.iastore, 1) := by decide +kernel
theorem dX1_put_29 : decode cX1_put 29 = .ok (.aload_n 0, 1) := by decide +kernel
theorem dX1_put_30 : decode cX1_put 30 = .ok (.getfield 19, 3) := by decide +kernel
theorem dX1_put_33 : decode cX1_put 33 = .ok (.iload_n 1, 1) := by decide +kernel
theorem dX1_put_34 : decode cX1_put 34 = .ok (.iconst 0, 1) := by decide +kernel
theorem dX1_put_35 : decode cX1_put 35 = .ok (.iastore, 1) := by decide +kernel
theorem dX1_put_36 : decode cX1_put 36 = .ok (.aload_n 0, 1) := by decide +kernel
theorem dX1_put_37 : decode cX1_put 37 = .ok (.iload_n 1, 1) := by decide +kernel
theorem dX1_put_38 : decode cX1_put 38 = .ok (.invokevirtual 40, 3) := by decide +kernel
theorem dX1_put_41 : decode cX1_put 41 = .ok (.aload_n 0, 1) := by decide +kernel
theorem dX1_put_42 : decode cX1_put 42 = .ok (.getfield 15, 3) := by decide +kernel
theorem dX1_put_45 : decode cX1_put 45 = .ok (.iload_n 1, 1) := by decide +kernel
theorem dX1_put_46 : decode cX1_put 46 = .ok (.iaload, 1) := by decide +kernel
theorem dX1_put_47 : decode cX1_put 47 = .ok (.ireturn, 1) := by decide +kernel
theorem dX1_dropLast_0 : decode cX1_dropLast 0 = .ok (.aload_n 0, 1) := by decide +kernel
theorem dX1_dropLast_1 : decode cX1_dropLast 1 = .ok (.getfield 15, 3) := by decide +kernel
theorem dX1_dropLast_4 : decode cX1_dropLast 4 = .ok (.iload_n 1, 1) := by decide +kernel
theorem dX1_dropLast_5 : decode cX1_dropLast 5 = .ok (.dup2, 1) := by decide +kernel
theorem dX1_dropLast_6 : decode cX1_dropLast 6 = .ok (.iaload, 1) := by decide +kernel
theorem dX1_dropLast_7 : decode cX1_dropLast 7 = .ok (.iconst 1, 1) := by decide +kernel
theorem dX1_dropLast_8 : decode cX1_dropLast 8 = .ok (.isub, 1) := by decide +kernel
theorem dX1_dropLast_9 : decode cX1_dropLast 9 = .ok (.iastore, 1) := by decide +kernel
theorem dX1_dropLast_10 : decode cX1_dropLast 10 = .ok (.aload_n 0, 1) := by decide +kernel
theorem dX1_dropLast_11 : decode cX1_dropLast 11 = .ok (.getfield 19, 3) := by decide +kernel
theorem dX1_dropLast_14 : decode cX1_dropLast 14 = .ok (.iload_n 1, 1) := by decide +kernel
theorem dX1_dropLast_15 : decode cX1_dropLast 15 = .ok (.iconst 0, 1) := by decide +kernel
theorem dX1_dropLast_16 : decode cX1_dropLast 16 = .ok (.iastore, 1) := by decide +kernel
theorem dX1_dropLast_17 : decode cX1_dropLast 17 = .ok (.aload_n 0, 1) := by decide +kernel
theorem dX1_dropLast_18 : decode cX1_dropLast 18 = .ok (.iload_n 1, 1) := by decide +kernel
theorem dX1_dropLast_19 : decode cX1_dropLast 19 = .ok (.invokevirtual 40, 3) := by decide +kernel
theorem dX1_dropLast_22 : decode cX1_dropLast 22 = .ok (.aload_n 0, 1) := by decide +kernel
theorem dX1_dropLast_23 : decode cX1_dropLast 23 = .ok (.getfield 24, 3) := by decide +kernel
theorem dX1_dropLast_26 : decode cX1_dropLast 26 = .ok (.iload_n 1, 1) := by decide +kernel
theorem dX1_dropLast_27 : decode cX1_dropLast 27 = .ok (.aaload, 1) := by decide +kernel
theorem dX1_dropLast_28 : decode cX1_dropLast 28 = .ok (.aload_n 0, 1) := by decide +kernel
theorem dX1_dropLast_29 : decode cX1_dropLast 29 = .ok (.getfield 15, 3) := by decide +kernel
theorem dX1_dropLast_32 : decode cX1_dropLast 32 = .ok (.iload_n 1, 1) := by decide +kernel
theorem dX1_dropLast_33 : decode cX1_dropLast 33 = .ok (.iaload, 1) := by decide +kernel
theorem dX1_dropLast_34 : decode cX1_dropLast 34 = .ok (.iaload, 1) := by decide +kernel
theorem dX1_dropLast_35 : decode cX1_dropLast 35 = .ok (.ireturn, 1) := by decide +kernel
theorem dX1_read_0 : decode cX1_read 0 = .ok (.iconst 0, 1) := by decide +kernel
theorem dX1_read_1 : decode cX1_read 1 = .ok (.istore_n 2, 1) := by decide +kernel
theorem dX1_read_2 : decode cX1_read 2 = .ok (.iload_n 2, 1) := by decide +kernel
theorem dX1_read_3 : decode cX1_read 3 = .ok (.aload_n 0, 1) := by decide +kernel
theorem dX1_read_4 : decode cX1_read 4 = .ok (.getfield 15, 3) := by decide +kernel
theorem dX1_read_7 : decode cX1_read 7 = .ok (.iload_n 1, 1) := by decide +kernel
theorem dX1_read_8 : decode cX1_read 8 = .ok (.iaload, 1) := by decide +kernel
theorem dX1_read_9 : decode cX1_read 9 = .ok (.if_icmp .ge 33, 3) := by decide +kernel
theorem dX1_read_12 : decode cX1_read 12 = .ok (.aload_n 0, 1) := by decide +kernel
theorem dX1_read_13 : decode cX1_read 13 = .ok (.getfield 27, 3) := by decide +kernel
theorem dX1_read_16 : decode cX1_read 16 = .ok (.iload_n 1, 1) := by decide +kernel
theorem dX1_read_17 : decode cX1_read 17 = .ok (.aaload, 1) := by decide +kernel
theorem dX1_read_18 : decode cX1_read 18 = .ok (.iload_n 2, 1) := by decide +kernel
theorem dX1_read_19 : decode cX1_read 19 = .ok (.aload_n 0, 1) := by decide +kernel
theorem dX1_read_20 : decode cX1_read 20 = .ok (.iload_n 1, 1) := by decide +kernel
theorem dX1_read_21 : decode cX1_read 21 = .ok (.iload_n 2, 1) := by decide +kernel
theorem dX1_read_22 : decode cX1_read 22 = .ok (.aload_n 0, 1) := by decide +kernel
theorem dX1_read_23 : decode cX1_read 23 = .ok (.getfield 24, 3) := by decide +kernel
theorem dX1_read_26 : decode cX1_read 26 = .ok (.iload_n 1, 1) := by decide +kernel
theorem dX1_read_27 : decode cX1_read 27 = .ok (.aaload, 1) := by decide +kernel
theorem dX1_read_28 : decode cX1_read 28 = .ok (.iload_n 2, 1) := by decide +kernel
theorem dX1_read_29 : decode cX1_read 29 = .ok (.iaload, 1) := by decide +kernel
theorem dX1_read_30 : decode cX1_read 30 = .ok (.iconst (-1), 1) := by decide +kernel
theorem dX1_read_31 : decode cX1_read 31 = .ok (.iconst (-1), 1) := by decide +kernel
theorem dX1_read_32 : decode cX1_read 32 = .ok (.invokevirtual 44, 3) := by decide +kernel
theorem dX1_read_35 : decode cX1_read 35 = .ok (.iastore, 1) := by decide +kernel
theorem dX1_read_36 : decode cX1_read 36 = .ok (.iinc 2 1, 3) := by decide +kernel
theorem dX1_read_39 : decode cX1_read 39 = .ok (.goto (-37), 3) := by decide +kernel
theorem dX1_read_42 : decode cX1_read 42 = .ok (.return_, 1) := by decide +kernel
theorem dX1_useOf_0 : decode cX1_useOf 0 = .ok (.aload_n 0, 1) := by decide +kernel
theorem dX1_useOf_1 : decode cX1_useOf 1 = .ok (.getfield 30, 3) := by decide +kernel
theorem dX1_useOf_4 : decode cX1_useOf 4 = .ok (.iload_n 1, 1) := by decide +kernel
theorem dX1_useOf_5 : decode cX1_useOf 5 = .ok (.iconst 3, 1) := by decide +kernel
theorem dX1_useOf_6 : decode cX1_useOf 6 = .ok (.irem, 1) := by decide +kernel
theorem dX1_useOf_7 : decode cX1_useOf 7 = .ok (.iload_n 3, 1) := by decide +kernel
theorem dX1_useOf_8 : decode cX1_useOf 8 = .ok (.invokevirtual 48, 3) := by decide +kernel
theorem dX1_useOf_11 : decode cX1_useOf 11 = .ok (.istore 6, 2) := by decide +kernel
theorem dX1_useOf_13 : decode cX1_useOf 13 = .ok (.iload 6, 2) := by decide +kernel
theorem dX1_useOf_15 : decode cX1_useOf 15 = .ok (.invokestatic 53, 3) := by decide +kernel
theorem dX1_useOf_18 : decode cX1_useOf 18 = .ok (.iconst 2, 1) := by decide +kernel
theorem dX1_useOf_19 : decode cX1_useOf 19 = .ok (.if_icmp .ge 9, 3) := by decide +kernel
theorem dX1_useOf_22 : decode cX1_useOf 22 = .ok (.iload 6, 2) := by decide +kernel
theorem dX1_useOf_24 : decode cX1_useOf 24 = .ok (.invokestatic 59, 3) := by decide +kernel
theorem dX1_useOf_27 : decode cX1_useOf 27 = .ok (.ireturn, 1) := by decide +kernel
theorem dX1_useOf_28 : decode cX1_useOf 28 = .ok (.iconst (-1), 1) := by decide +kernel
theorem dX1_useOf_29 : decode cX1_useOf 29 = .ok (.istore 7, 2) := by decide +kernel
theorem dX1_useOf_31 : decode cX1_useOf 31 = .ok (.iconst (-1), 1) := by decide +kernel
theorem dX1_useOf_32 : decode cX1_useOf 32 = .ok (.istore 8, 2) := by decide +kernel
theorem dX1_useOf_34 : decode cX1_useOf 34 = .ok (.iconst 0, 1) := by decide +kernel
theorem dX1_useOf_35 : decode cX1_useOf 35 = .ok (.istore 9, 2) := by decide +kernel
theorem dX1_useOf_37 : decode cX1_useOf 37 = .ok (.iload 9, 2) := by decide +kernel
theorem dX1_useOf_39 : decode cX1_useOf 39 = .ok (.aload_n 0, 1) := by decide +kernel
theorem dX1_useOf_40 : decode cX1_useOf 40 = .ok (.getfield 30, 3) := by decide +kernel
theorem dX1_useOf_43 : decode cX1_useOf 43 = .ok (.getfield 62, 3) := by decide +kernel
theorem dX1_useOf_46 : decode cX1_useOf 46 = .ok (.if_icmp .ge 48, 3) := by decide +kernel
theorem dX1_useOf_49 : decode cX1_useOf 49 = .ok (.iload 6, 2) := by decide +kernel
theorem dX1_useOf_51 : decode cX1_useOf 51 = .ok (.iload 9, 2) := by decide +kernel
theorem dX1_useOf_53 : decode cX1_useOf 53 = .ok (.invokestatic 65, 3) := by decide +kernel
theorem dX1_useOf_56 : decode cX1_useOf 56 = .ok (.ifCond .eq 32, 3) := by decide +kernel
theorem dX1_useOf_59 : decode cX1_useOf 59 = .ok (.aload_n 0, 1) := by decide +kernel
theorem dX1_useOf_60 : decode cX1_useOf 60 = .ok (.iload 9, 2) := by decide +kernel
theorem dX1_useOf_62 : decode cX1_useOf 62 = .ok (.iload_n 1, 1) := by decide +kernel
theorem dX1_useOf_63 : decode cX1_useOf 63 = .ok (.iload_n 2, 1) := by decide +kernel
theorem dX1_useOf_64 : decode cX1_useOf 64 = .ok (.iload 4, 2) := by decide +kernel
theorem dX1_useOf_66 : decode cX1_useOf 66 = .ok (.iload 5, 2) := by decide +kernel
theorem dX1_useOf_68 : decode cX1_useOf 68 = .ok (.invokevirtual 69, 3) := by decide +kernel
theorem dX1_useOf_71 : decode cX1_useOf 71 = .ok (.istore 10, 2) := by decide +kernel
theorem dX1_useOf_73 : decode cX1_useOf 73 = .ok (.iload 10, 2) := by decide +kernel
theorem dX1_useOf_75 : decode cX1_useOf 75 = .ok (.iload 8, 2) := by decide +kernel
theorem dX1_useOf_77 : decode cX1_useOf 77 = .ok (.if_icmp .le 11, 3) := by decide +kernel
theorem dX1_useOf_80 : decode cX1_useOf 80 = .ok (.iload 9, 2) := by decide +kernel
theorem dX1_useOf_82 : decode cX1_useOf 82 = .ok (.istore 7, 2) := by decide +kernel
theorem dX1_useOf_84 : decode cX1_useOf 84 = .ok (.iload 10, 2) := by decide +kernel
theorem dX1_useOf_86 : decode cX1_useOf 86 = .ok (.istore 8, 2) := by decide +kernel
theorem dX1_useOf_88 : decode cX1_useOf 88 = .ok (.iinc 9 1, 3) := by decide +kernel
theorem dX1_useOf_91 : decode cX1_useOf 91 = .ok (.goto (-54), 3) := by decide +kernel
theorem dX1_useOf_94 : decode cX1_useOf 94 = .ok (.iload 7, 2) := by decide +kernel
theorem dX1_useOf_96 : decode cX1_useOf 96 = .ok (.ireturn, 1) := by decide +kernel
theorem dX1_supportFor_0 : decode cX1_supportFor 0 = .ok (.aload_n 0, 1) := by decide +kernel
theorem dX1_supportFor_1 : decode cX1_supportFor 1 = .ok (.getfield 30, 3) := by decide +kernel
theorem dX1_supportFor_4 : decode cX1_supportFor 4 = .ok (.iload_n 1, 1) := by decide +kernel
theorem dX1_supportFor_5 : decode cX1_supportFor 5 = .ok (.iload 4, 2) := by decide +kernel
theorem dX1_supportFor_7 : decode cX1_supportFor 7 = .ok (.iload 5, 2) := by decide +kernel
theorem dX1_supportFor_9 : decode cX1_supportFor 9 = .ok (.invokevirtual 72, 3) := by decide +kernel
theorem dX1_supportFor_12 : decode cX1_supportFor 12 = .ok (.istore 6, 2) := by decide +kernel
theorem dX1_supportFor_14 : decode cX1_supportFor 14 = .ok (.iload_n 3, 1) := by decide +kernel
theorem dX1_supportFor_15 : decode cX1_supportFor 15 = .ok (.iconst 3, 1) := by decide +kernel
theorem dX1_supportFor_16 : decode cX1_supportFor 16 = .ok (.iadd, 1) := by decide +kernel
theorem dX1_supportFor_17 : decode cX1_supportFor 17 = .ok (.aload_n 0, 1) := by decide +kernel
theorem dX1_supportFor_18 : decode cX1_supportFor 18 = .ok (.getfield 15, 3) := by decide +kernel
theorem dX1_supportFor_21 : decode cX1_supportFor 21 = .ok (.iload_n 2, 1) := by decide +kernel
theorem dX1_supportFor_22 : decode cX1_supportFor 22 = .ok (.iaload, 1) := by decide +kernel
theorem dX1_supportFor_23 : decode cX1_supportFor 23 = .ok (.iconst 1, 1) := by decide +kernel
theorem dX1_supportFor_24 : decode cX1_supportFor 24 = .ok (.isub, 1) := by decide +kernel
theorem dX1_supportFor_25 : decode cX1_supportFor 25 = .ok (.invokestatic 34, 3) := by decide +kernel
theorem dX1_supportFor_28 : decode cX1_supportFor 28 = .ok (.istore 7, 2) := by decide +kernel
theorem dX1_supportFor_30 : decode cX1_supportFor 30 = .ok (.iconst 0, 1) := by decide +kernel
theorem dX1_supportFor_31 : decode cX1_supportFor 31 = .ok (.istore 8, 2) := by decide +kernel
theorem dX1_supportFor_33 : decode cX1_supportFor 33 = .ok (.iload_n 3, 1) := by decide +kernel
theorem dX1_supportFor_34 : decode cX1_supportFor 34 = .ok (.iconst 3, 1) := by decide +kernel
theorem dX1_supportFor_35 : decode cX1_supportFor 35 = .ok (.isub, 1) := by decide +kernel
theorem dX1_supportFor_36 : decode cX1_supportFor 36 = .ok (.iconst 0, 1) := by decide +kernel
theorem dX1_supportFor_37 : decode cX1_supportFor 37 = .ok (.invokestatic 76, 3) := by decide +kernel
theorem dX1_supportFor_40 : decode cX1_supportFor 40 = .ok (.istore 9, 2) := by decide +kernel
theorem dX1_supportFor_42 : decode cX1_supportFor 42 = .ok (.iload 9, 2) := by decide +kernel
theorem dX1_supportFor_44 : decode cX1_supportFor 44 = .ok (.iload 7, 2) := by decide +kernel
theorem dX1_supportFor_46 : decode cX1_supportFor 46 = .ok (.if_icmp .gt 72, 3) := by decide +kernel
theorem dX1_supportFor_49 : decode cX1_supportFor 49 = .ok (.aload_n 0, 1) := by decide +kernel
theorem dX1_supportFor_50 : decode cX1_supportFor 50 = .ok (.getfield 30, 3) := by decide +kernel
theorem dX1_supportFor_53 : decode cX1_supportFor 53 = .ok (.iload_n 2, 1) := by decide +kernel
theorem dX1_supportFor_54 : decode cX1_supportFor 54 = .ok (.iconst 3, 1) := by decide +kernel
theorem dX1_supportFor_55 : decode cX1_supportFor 55 = .ok (.irem, 1) := by decide +kernel
theorem dX1_supportFor_56 : decode cX1_supportFor 56 = .ok (.aload_n 0, 1) := by decide +kernel
theorem dX1_supportFor_57 : decode cX1_supportFor 57 = .ok (.getfield 24, 3) := by decide +kernel
theorem dX1_supportFor_60 : decode cX1_supportFor 60 = .ok (.iload_n 2, 1) := by decide +kernel
theorem dX1_supportFor_61 : decode cX1_supportFor 61 = .ok (.aaload, 1) := by decide +kernel
theorem dX1_supportFor_62 : decode cX1_supportFor 62 = .ok (.iload 9, 2) := by decide +kernel
theorem dX1_supportFor_64 : decode cX1_supportFor 64 = .ok (.iaload, 1) := by decide +kernel
theorem dX1_supportFor_65 : decode cX1_supportFor 65 = .ok (.invokevirtual 48, 3) := by decide +kernel
theorem dX1_supportFor_68 : decode cX1_supportFor 68 = .ok (.invokestatic 59, 3) := by decide +kernel
theorem dX1_supportFor_71 : decode cX1_supportFor 71 = .ok (.istore 10, 2) := by decide +kernel
theorem dX1_supportFor_73 : decode cX1_supportFor 73 = .ok (.iload 9, 2) := by decide +kernel
theorem dX1_supportFor_75 : decode cX1_supportFor 75 = .ok (.iload_n 3, 1) := by decide +kernel
theorem dX1_supportFor_76 : decode cX1_supportFor 76 = .ok (.if_icmp .eq 36, 3) := by decide +kernel
theorem dX1_supportFor_79 : decode cX1_supportFor 79 = .ok (.aload_n 0, 1) := by decide +kernel
theorem dX1_supportFor_80 : decode cX1_supportFor 80 = .ok (.getfield 30, 3) := by decide +kernel
theorem dX1_supportFor_83 : decode cX1_supportFor 83 = .ok (.iload 10, 2) := by decide +kernel
theorem dX1_supportFor_85 : decode cX1_supportFor 85 = .ok (.invokevirtual 79, 3) := by decide +kernel
theorem dX1_supportFor_88 : decode cX1_supportFor 88 = .ok (.ifCond .eq 24, 3) := by decide +kernel
theorem dX1_supportFor_91 : decode cX1_supportFor 91 = .ok (.aload_n 0, 1) := by decide +kernel
theorem dX1_supportFor_92 : decode cX1_supportFor 92 = .ok (.getfield 30, 3) := by decide +kernel
theorem dX1_supportFor_95 : decode cX1_supportFor 95 = .ok (.iload 10, 2) := by decide +kernel
theorem dX1_supportFor_97 : decode cX1_supportFor 97 = .ok (.iload 4, 2) := by decide +kernel
theorem dX1_supportFor_99 : decode cX1_supportFor 99 = .ok (.iload 5, 2) := by decide +kernel
theorem dX1_supportFor_101 : decode cX1_supportFor 101 = .ok (.invokevirtual 72, 3) := by decide +kernel
theorem dX1_supportFor_104 : decode cX1_supportFor 104 = .ok (.iload 6, 2) := by decide +kernel
theorem dX1_supportFor_106 : decode cX1_supportFor 106 = .ok (.if_icmp .ne 6, 3) := by decide +kernel
theorem dX1_supportFor_109 : decode cX1_supportFor 109 = .ok (.iinc 8 1, 3) := by decide +kernel
theorem dX1_supportFor_112 : decode cX1_supportFor 112 = .ok (.iinc 9 1, 3) := by decide +kernel
theorem dX1_supportFor_115 : decode cX1_supportFor 115 = .ok (.goto (-73), 3) := by decide +kernel
theorem dX1_supportFor_118 : decode cX1_supportFor 118 = .ok (.iload 8, 2) := by decide +kernel
theorem dX1_supportFor_120 : decode cX1_supportFor 120 = .ok (.ireturn, 1) := by decide +kernel
theorem dX1_onlyOneOf_0 : decode cX1_onlyOneOf 0 = .ok (.iload_n 0, 1) := by decide +kernel
theorem dX1_onlyOneOf_1 : decode cX1_onlyOneOf 1 = .ok (.invokestatic 53, 3) := by decide +kernel
theorem dX1_onlyOneOf_4 : decode cX1_onlyOneOf 4 = .ok (.iconst 1, 1) := by decide +kernel
theorem dX1_onlyOneOf_5 : decode cX1_onlyOneOf 5 = .ok (.if_icmp .ne 12, 3) := by decide +kernel
theorem dX1_onlyOneOf_8 : decode cX1_onlyOneOf 8 = .ok (.iload_n 0, 1) := by decide +kernel
theorem dX1_onlyOneOf_9 : decode cX1_onlyOneOf 9 = .ok (.iconst 1, 1) := by decide +kernel
theorem dX1_onlyOneOf_10 : decode cX1_onlyOneOf 10 = .ok (.isub, 1) := by decide +kernel
theorem dX1_onlyOneOf_11 : decode cX1_onlyOneOf 11 = .ok (.invokestatic 53, 3) := by decide +kernel
theorem dX1_onlyOneOf_14 : decode cX1_onlyOneOf 14 = .ok (.goto 4, 3) := by decide +kernel
theorem dX1_onlyOneOf_17 : decode cX1_onlyOneOf 17 = .ok (.iconst (-1), 1) := by decide +kernel
theorem dX1_onlyOneOf_18 : decode cX1_onlyOneOf 18 = .ok (.ireturn, 1) := by decide +kernel
theorem dX1_usesChangedByMoving_0 : decode cX1_usesChangedByMoving 0 = .ok (.iconst 0, 1) := by decide +kernel
theorem dX1_usesChangedByMoving_1 : decode cX1_usesChangedByMoving 1 = .ok (.istore_n 3, 1) := by decide +kernel
theorem dX1_usesChangedByMoving_2 : decode cX1_usesChangedByMoving 2 = .ok (.iconst 0, 1) := by decide +kernel
theorem dX1_usesChangedByMoving_3 : decode cX1_usesChangedByMoving 3 = .ok (.istore 4, 2) := by decide +kernel
theorem dX1_usesChangedByMoving_5 : decode cX1_usesChangedByMoving 5 = .ok (.iload 4, 2) := by decide +kernel
theorem dX1_usesChangedByMoving_7 : decode cX1_usesChangedByMoving 7 = .ok (.aload_n 0, 1) := by decide +kernel
theorem dX1_usesChangedByMoving_8 : decode cX1_usesChangedByMoving 8 = .ok (.invokevirtual 83, 3) := by decide +kernel
theorem dX1_usesChangedByMoving_11 : decode cX1_usesChangedByMoving 11 = .ok (.if_icmp .ge 66, 3) := by decide +kernel
theorem dX1_usesChangedByMoving_14 : decode cX1_usesChangedByMoving 14 = .ok (.iconst 0, 1) := by decide +kernel
theorem dX1_usesChangedByMoving_15 : decode cX1_usesChangedByMoving 15 = .ok (.istore 5, 2) := by decide +kernel
theorem dX1_usesChangedByMoving_17 : decode cX1_usesChangedByMoving 17 = .ok (.iload 5, 2) := by decide +kernel
theorem dX1_usesChangedByMoving_19 : decode cX1_usesChangedByMoving 19 = .ok (.aload_n 0, 1) := by decide +kernel
theorem dX1_usesChangedByMoving_20 : decode cX1_usesChangedByMoving 20 = .ok (.getfield 15, 3) := by decide +kernel
theorem dX1_usesChangedByMoving_23 : decode cX1_usesChangedByMoving 23 = .ok (.iload 4, 2) := by decide +kernel
theorem dX1_usesChangedByMoving_25 : decode cX1_usesChangedByMoving 25 = .ok (.iaload, 1) := by decide +kernel
theorem dX1_usesChangedByMoving_26 : decode cX1_usesChangedByMoving 26 = .ok (.if_icmp .ge 45, 3) := by decide +kernel
theorem dX1_usesChangedByMoving_29 : decode cX1_usesChangedByMoving 29 = .ok (.aload_n 0, 1) := by decide +kernel
theorem dX1_usesChangedByMoving_30 : decode cX1_usesChangedByMoving 30 = .ok (.iload 4, 2) := by decide +kernel
theorem dX1_usesChangedByMoving_32 : decode cX1_usesChangedByMoving 32 = .ok (.iload 5, 2) := by decide +kernel
theorem dX1_usesChangedByMoving_34 : decode cX1_usesChangedByMoving 34 = .ok (.aload_n 0, 1) := by decide +kernel
theorem dX1_usesChangedByMoving_35 : decode cX1_usesChangedByMoving 35 = .ok (.getfield 24, 3) := by decide +kernel
theorem dX1_usesChangedByMoving_38 : decode cX1_usesChangedByMoving 38 = .ok (.iload 4, 2) := by decide +kernel
theorem dX1_usesChangedByMoving_40 : decode cX1_usesChangedByMoving 40 = .ok (.aaload, 1) := by decide +kernel
theorem dX1_usesChangedByMoving_41 : decode cX1_usesChangedByMoving 41 = .ok (.iload 5, 2) := by decide +kernel
theorem dX1_usesChangedByMoving_43 : decode cX1_usesChangedByMoving 43 = .ok (.iaload, 1) := by decide +kernel
theorem dX1_usesChangedByMoving_44 : decode cX1_usesChangedByMoving 44 = .ok (.iload_n 1, 1) := by decide +kernel
theorem dX1_usesChangedByMoving_45 : decode cX1_usesChangedByMoving 45 = .ok (.iload_n 2, 1) := by decide +kernel
theorem dX1_usesChangedByMoving_46 : decode cX1_usesChangedByMoving 46 = .ok (.invokevirtual 44, 3) := by decide +kernel
theorem dX1_usesChangedByMoving_49 : decode cX1_usesChangedByMoving 49 = .ok (.aload_n 0, 1) := by decide +kernel
theorem dX1_usesChangedByMoving_50 : decode cX1_usesChangedByMoving 50 = .ok (.getfield 27, 3) := by decide +kernel
theorem dX1_usesChangedByMoving_53 : decode cX1_usesChangedByMoving 53 = .ok (.iload 4, 2) := by decide +kernel
theorem dX1_usesChangedByMoving_55 : decode cX1_usesChangedByMoving 55 = .ok (.aaload, 1) := by decide +kernel
theorem dX1_usesChangedByMoving_56 : decode cX1_usesChangedByMoving 56 = .ok (.iload 5, 2) := by decide +kernel
theorem dX1_usesChangedByMoving_58 : decode cX1_usesChangedByMoving 58 = .ok (.iaload, 1) := by decide +kernel
theorem dX1_usesChangedByMoving_59 : decode cX1_usesChangedByMoving 59 = .ok (.if_icmp .eq 6, 3) := by decide +kernel
theorem dX1_usesChangedByMoving_62 : decode cX1_usesChangedByMoving 62 = .ok (.iinc 3 1, 3) := by decide +kernel
theorem dX1_usesChangedByMoving_65 : decode cX1_usesChangedByMoving 65 = .ok (.iinc 5 1, 3) := by decide +kernel
theorem dX1_usesChangedByMoving_68 : decode cX1_usesChangedByMoving 68 = .ok (.goto (-51), 3) := by decide +kernel
theorem dX1_usesChangedByMoving_71 : decode cX1_usesChangedByMoving 71 = .ok (.iinc 4 1, 3) := by decide +kernel
theorem dX1_usesChangedByMoving_74 : decode cX1_usesChangedByMoving 74 = .ok (.goto (-69), 3) := by decide +kernel
theorem dX1_usesChangedByMoving_77 : decode cX1_usesChangedByMoving 77 = .ok (.iload_n 3, 1) := by decide +kernel
theorem dX1_usesChangedByMoving_78 : decode cX1_usesChangedByMoving 78 = .ok (.ireturn, 1) := by decide +kernel
theorem dX1_usesAmongIn_0 : decode cX1_usesAmongIn 0 = .ok (.iconst 0, 1) := by decide +kernel
theorem dX1_usesAmongIn_1 : decode cX1_usesAmongIn 1 = .ok (.istore_n 3, 1) := by decide +kernel
theorem dX1_usesAmongIn_2 : decode cX1_usesAmongIn 2 = .ok (.iconst 0, 1) := by decide +kernel
theorem dX1_usesAmongIn_3 : decode cX1_usesAmongIn 3 = .ok (.istore 4, 2) := by decide +kernel
theorem dX1_usesAmongIn_5 : decode cX1_usesAmongIn 5 = .ok (.iload 4, 2) := by decide +kernel
theorem dX1_usesAmongIn_7 : decode cX1_usesAmongIn 7 = .ok (.aload_n 0, 1) := by decide +kernel
theorem dX1_usesAmongIn_8 : decode cX1_usesAmongIn 8 = .ok (.getfield 15, 3) := by decide +kernel
theorem dX1_usesAmongIn_11 : decode cX1_usesAmongIn 11 = .ok (.iload_n 1, 1) := by decide +kernel
theorem dX1_usesAmongIn_12 : decode cX1_usesAmongIn 12 = .ok (.iaload, 1) := by decide +kernel
theorem dX1_usesAmongIn_13 : decode cX1_usesAmongIn 13 = .ok (.if_icmp .ge 38, 3) := by decide +kernel
theorem dX1_usesAmongIn_16 : decode cX1_usesAmongIn 16 = .ok (.aload_n 0, 1) := by decide +kernel
theorem dX1_usesAmongIn_17 : decode cX1_usesAmongIn 17 = .ok (.getfield 27, 3) := by decide +kernel
theorem dX1_usesAmongIn_20 : decode cX1_usesAmongIn 20 = .ok (.iload_n 1, 1) := by decide +kernel
theorem dX1_usesAmongIn_21 : decode cX1_usesAmongIn 21 = .ok (.aaload, 1) := by decide +kernel
theorem dX1_usesAmongIn_22 : decode cX1_usesAmongIn 22 = .ok (.iload 4, 2) := by decide +kernel
theorem dX1_usesAmongIn_24 : decode cX1_usesAmongIn 24 = .ok (.iaload, 1) := by decide +kernel
theorem dX1_usesAmongIn_25 : decode cX1_usesAmongIn 25 = .ok (.istore 5, 2) := by decide +kernel
theorem dX1_usesAmongIn_27 : decode cX1_usesAmongIn 27 = .ok (.iload 5, 2) := by decide +kernel
theorem dX1_usesAmongIn_29 : decode cX1_usesAmongIn 29 = .ok (.iconst (-1), 1) := by decide +kernel
theorem dX1_usesAmongIn_30 : decode cX1_usesAmongIn 30 = .ok (.if_icmp .eq 15, 3) := by decide +kernel
theorem dX1_usesAmongIn_33 : decode cX1_usesAmongIn 33 = .ok (.iload_n 2, 1) := by decide +kernel
theorem dX1_usesAmongIn_34 : decode cX1_usesAmongIn 34 = .ok (.iload 5, 2) := by decide +kernel
theorem dX1_usesAmongIn_36 : decode cX1_usesAmongIn 36 = .ok (.invokestatic 65, 3) := by decide +kernel
theorem dX1_usesAmongIn_39 : decode cX1_usesAmongIn 39 = .ok (.ifCond .eq 6, 3) := by decide +kernel
theorem dX1_usesAmongIn_42 : decode cX1_usesAmongIn 42 = .ok (.iinc 3 1, 3) := by decide +kernel
theorem dX1_usesAmongIn_45 : decode cX1_usesAmongIn 45 = .ok (.iinc 4 1, 3) := by decide +kernel
theorem dX1_usesAmongIn_48 : decode cX1_usesAmongIn 48 = .ok (.goto (-43), 3) := by decide +kernel
theorem dX1_usesAmongIn_51 : decode cX1_usesAmongIn 51 = .ok (.iload_n 3, 1) := by decide +kernel
theorem dX1_usesAmongIn_52 : decode cX1_usesAmongIn 52 = .ok (.ireturn, 1) := by decide +kernel
theorem dX1_isUseInState_0 : decode cX1_isUseInState 0 = .ok (.aload_n 0, 1) := by decide +kernel
theorem dX1_isUseInState_1 : decode cX1_isUseInState 1 = .ok (.getfield 27, 3) := by decide +kernel
theorem dX1_isUseInState_4 : decode cX1_isUseInState 4 = .ok (.iload_n 1, 1) := by decide +kernel
theorem dX1_isUseInState_5 : decode cX1_isUseInState 5 = .ok (.aaload, 1) := by decide +kernel
theorem dX1_isUseInState_6 : decode cX1_isUseInState 6 = .ok (.iload_n 2, 1) := by decide +kernel
theorem dX1_isUseInState_7 : decode cX1_isUseInState 7 = .ok (.iaload, 1) := by decide +kernel
theorem dX1_isUseInState_8 : decode cX1_isUseInState 8 = .ok (.istore 4, 2) := by decide +kernel
theorem dX1_isUseInState_10 : decode cX1_isUseInState 10 = .ok (.aload_n 0, 1) := by decide +kernel
theorem dX1_isUseInState_11 : decode cX1_isUseInState 11 = .ok (.getfield 30, 3) := by decide +kernel
theorem dX1_isUseInState_14 : decode cX1_isUseInState 14 = .ok (.iload 4, 2) := by decide +kernel
theorem dX1_isUseInState_16 : decode cX1_isUseInState 16 = .ok (.invokevirtual 79, 3) := by decide +kernel
theorem dX1_isUseInState_19 : decode cX1_isUseInState 19 = .ok (.ifCond .eq 21, 3) := by decide +kernel
theorem dX1_isUseInState_22 : decode cX1_isUseInState 22 = .ok (.aload_n 0, 1) := by decide +kernel
theorem dX1_isUseInState_23 : decode cX1_isUseInState 23 = .ok (.getfield 30, 3) := by decide +kernel
theorem dX1_isUseInState_26 : decode cX1_isUseInState 26 = .ok (.getfield 87, 3) := by decide +kernel
theorem dX1_isUseInState_29 : decode cX1_isUseInState 29 = .ok (.iload 4, 2) := by decide +kernel
theorem dX1_isUseInState_31 : decode cX1_isUseInState 31 = .ok (.iaload, 1) := by decide +kernel
theorem dX1_isUseInState_32 : decode cX1_isUseInState 32 = .ok (.iload_n 3, 1) := by decide +kernel
theorem dX1_isUseInState_33 : decode cX1_isUseInState 33 = .ok (.if_icmp .ne 7, 3) := by decide +kernel
theorem dX1_isUseInState_36 : decode cX1_isUseInState 36 = .ok (.iconst 1, 1) := by decide +kernel
theorem dX1_isUseInState_37 : decode cX1_isUseInState 37 = .ok (.goto 4, 3) := by decide +kernel
theorem dX1_isUseInState_40 : decode cX1_isUseInState 40 = .ok (.iconst 0, 1) := by decide +kernel
theorem dX1_isUseInState_41 : decode cX1_isUseInState 41 = .ok (.ireturn, 1) := by decide +kernel
theorem dX1_usesInState_0 : decode cX1_usesInState 0 = .ok (.iconst 0, 1) := by decide +kernel
theorem dX1_usesInState_1 : decode cX1_usesInState 1 = .ok (.istore_n 3, 1) := by decide +kernel
theorem dX1_usesInState_2 : decode cX1_usesInState 2 = .ok (.iconst 0, 1) := by decide +kernel
theorem dX1_usesInState_3 : decode cX1_usesInState 3 = .ok (.istore 4, 2) := by decide +kernel
theorem dX1_usesInState_5 : decode cX1_usesInState 5 = .ok (.iload 4, 2) := by decide +kernel
theorem dX1_usesInState_7 : decode cX1_usesInState 7 = .ok (.aload_n 0, 1) := by decide +kernel
theorem dX1_usesInState_8 : decode cX1_usesInState 8 = .ok (.getfield 15, 3) := by decide +kernel
theorem dX1_usesInState_11 : decode cX1_usesInState 11 = .ok (.iload_n 1, 1) := by decide +kernel
theorem dX1_usesInState_12 : decode cX1_usesInState 12 = .ok (.iaload, 1) := by decide +kernel
theorem dX1_usesInState_13 : decode cX1_usesInState 13 = .ok (.if_icmp .ge 23, 3) := by decide +kernel
theorem dX1_usesInState_16 : decode cX1_usesInState 16 = .ok (.aload_n 0, 1) := by decide +kernel
theorem dX1_usesInState_17 : decode cX1_usesInState 17 = .ok (.iload_n 1, 1) := by decide +kernel
theorem dX1_usesInState_18 : decode cX1_usesInState 18 = .ok (.iload 4, 2) := by decide +kernel
theorem dX1_usesInState_20 : decode cX1_usesInState 20 = .ok (.iload_n 2, 1) := by decide +kernel
theorem dX1_usesInState_21 : decode cX1_usesInState 21 = .ok (.invokevirtual 88, 3) := by decide +kernel
theorem dX1_usesInState_24 : decode cX1_usesInState 24 = .ok (.ifCond .eq 6, 3) := by decide +kernel
theorem dX1_usesInState_27 : decode cX1_usesInState 27 = .ok (.iinc 3 1, 3) := by decide +kernel
theorem dX1_usesInState_30 : decode cX1_usesInState 30 = .ok (.iinc 4 1, 3) := by decide +kernel
theorem dX1_usesInState_33 : decode cX1_usesInState 33 = .ok (.goto (-28), 3) := by decide +kernel
theorem dX1_usesInState_36 : decode cX1_usesInState 36 = .ok (.iload_n 3, 1) := by decide +kernel
theorem dX1_usesInState_37 : decode cX1_usesInState 37 = .ok (.ireturn, 1) := by decide +kernel
theorem dX1_firstBanned_0 : decode cX1_firstBanned 0 = .ok (.iconst 0, 1) := by decide +kernel
theorem dX1_firstBanned_1 : decode cX1_firstBanned 1 = .ok (.istore_n 2, 1) := by decide +kernel
theorem dX1_firstBanned_2 : decode cX1_firstBanned 2 = .ok (.iload_n 2, 1) := by decide +kernel
theorem dX1_firstBanned_3 : decode cX1_firstBanned 3 = .ok (.aload_n 0, 1) := by decide +kernel
theorem dX1_firstBanned_4 : decode cX1_firstBanned 4 = .ok (.getfield 15, 3) := by decide +kernel
theorem dX1_firstBanned_7 : decode cX1_firstBanned 7 = .ok (.iload_n 1, 1) := by decide +kernel
theorem dX1_firstBanned_8 : decode cX1_firstBanned 8 = .ok (.iaload, 1) := by decide +kernel
theorem dX1_firstBanned_9 : decode cX1_firstBanned 9 = .ok (.if_icmp .ge 21, 3) := by decide +kernel
theorem dX1_firstBanned_12 : decode cX1_firstBanned 12 = .ok (.aload_n 0, 1) := by decide +kernel
theorem dX1_firstBanned_13 : decode cX1_firstBanned 13 = .ok (.iload_n 1, 1) := by decide +kernel
theorem dX1_firstBanned_14 : decode cX1_firstBanned 14 = .ok (.iload_n 2, 1) := by decide +kernel
theorem dX1_firstBanned_15 : decode cX1_firstBanned 15 = .ok (.iconst 3, 1) := by decide +kernel
theorem dX1_firstBanned_16 : decode cX1_firstBanned 16 = .ok (.invokevirtual 88, 3) := by decide +kernel
theorem dX1_firstBanned_19 : decode cX1_firstBanned 19 = .ok (.ifCond .eq 5, 3) := by decide +kernel
theorem dX1_firstBanned_22 : decode cX1_firstBanned 22 = .ok (.iload_n 2, 1) := by decide +kernel
theorem dX1_firstBanned_23 : decode cX1_firstBanned 23 = .ok (.ireturn, 1) := by decide +kernel
theorem dX1_firstBanned_24 : decode cX1_firstBanned 24 = .ok (.iinc 2 1, 3) := by decide +kernel
theorem dX1_firstBanned_27 : decode cX1_firstBanned 27 = .ok (.goto (-25), 3) := by decide +kernel
theorem dX1_firstBanned_30 : decode cX1_firstBanned 30 = .ok (.iconst (-1), 1) := by decide +kernel
theorem dX1_firstBanned_31 : decode cX1_firstBanned 31 = .ok (.ireturn, 1) := by decide +kernel
theorem dX1_consistency_0 : decode cX1_consistency 0 = .ok (.aload_n 0, 1) := by decide +kernel
theorem dX1_consistency_1 : decode cX1_consistency 1 = .ok (.iload_n 1, 1) := by decide +kernel
theorem dX1_consistency_2 : decode cX1_consistency 2 = .ok (.iconst (-1), 1) := by decide +kernel
theorem dX1_consistency_3 : decode cX1_consistency 3 = .ok (.invokevirtual 92, 3) := by decide +kernel
theorem dX1_consistency_6 : decode cX1_consistency 6 = .ok (.istore_n 2, 1) := by decide +kernel
theorem dX1_consistency_7 : decode cX1_consistency 7 = .ok (.iload_n 2, 1) := by decide +kernel
theorem dX1_consistency_8 : decode cX1_consistency 8 = .ok (.ifCond .ne 8, 3) := by decide +kernel
theorem dX1_consistency_11 : decode cX1_consistency 11 = .ok (.bipush 100, 2) := by decide +kernel
theorem dX1_consistency_13 : decode cX1_consistency 13 = .ok (.goto 14, 3) := by decide +kernel
theorem dX1_consistency_16 : decode cX1_consistency 16 = .ok (.bipush 100, 2) := by decide +kernel
theorem dX1_consistency_18 : decode cX1_consistency 18 = .ok (.aload_n 0, 1) := by decide +kernel
theorem dX1_consistency_19 : decode cX1_consistency 19 = .ok (.iload_n 1, 1) := by decide +kernel
theorem dX1_consistency_20 : decode cX1_consistency 20 = .ok (.iconst 2, 1) := by decide +kernel
theorem dX1_consistency_21 : decode cX1_consistency 21 = .ok (.invokevirtual 95, 3) := by decide +kernel
theorem dX1_consistency_24 : decode cX1_consistency 24 = .ok (.imul, 1) := by decide +kernel
theorem dX1_consistency_25 : decode cX1_consistency 25 = .ok (.iload_n 2, 1) := by decide +kernel
theorem dX1_consistency_26 : decode cX1_consistency 26 = .ok (.idiv, 1) := by decide +kernel
theorem dX1_consistency_27 : decode cX1_consistency 27 = .ok (.ireturn, 1) := by decide +kernel
theorem dX1_ambiguousForms_0 : decode cX1_ambiguousForms 0 = .ok (.iconst 0, 1) := by decide +kernel
theorem dX1_ambiguousForms_1 : decode cX1_ambiguousForms 1 = .ok (.istore_n 2, 1) := by decide +kernel
theorem dX1_ambiguousForms_2 : decode cX1_ambiguousForms 2 = .ok (.iconst 0, 1) := by decide +kernel
theorem dX1_ambiguousForms_3 : decode cX1_ambiguousForms 3 = .ok (.istore_n 3, 1) := by decide +kernel
theorem dX1_ambiguousForms_4 : decode cX1_ambiguousForms 4 = .ok (.iload_n 3, 1) := by decide +kernel
theorem dX1_ambiguousForms_5 : decode cX1_ambiguousForms 5 = .ok (.aload_n 0, 1) := by decide +kernel
theorem dX1_ambiguousForms_6 : decode cX1_ambiguousForms 6 = .ok (.getfield 15, 3) := by decide +kernel
theorem dX1_ambiguousForms_9 : decode cX1_ambiguousForms 9 = .ok (.iload_n 1, 1) := by decide +kernel
theorem dX1_ambiguousForms_10 : decode cX1_ambiguousForms 10 = .ok (.iaload, 1) := by decide +kernel
theorem dX1_ambiguousForms_11 : decode cX1_ambiguousForms 11 = .ok (.if_icmp .ge 37, 3) := by decide +kernel
theorem dX1_ambiguousForms_14 : decode cX1_ambiguousForms 14 = .ok (.aload_n 0, 1) := by decide +kernel
theorem dX1_ambiguousForms_15 : decode cX1_ambiguousForms 15 = .ok (.getfield 30, 3) := by decide +kernel
theorem dX1_ambiguousForms_18 : decode cX1_ambiguousForms 18 = .ok (.iload_n 1, 1) := by decide +kernel
theorem dX1_ambiguousForms_19 : decode cX1_ambiguousForms 19 = .ok (.iconst 3, 1) := by decide +kernel
theorem dX1_ambiguousForms_20 : decode cX1_ambiguousForms 20 = .ok (.irem, 1) := by decide +kernel
theorem dX1_ambiguousForms_21 : decode cX1_ambiguousForms 21 = .ok (.aload_n 0, 1) := by decide +kernel
theorem dX1_ambiguousForms_22 : decode cX1_ambiguousForms 22 = .ok (.getfield 24, 3) := by decide +kernel
theorem dX1_ambiguousForms_25 : decode cX1_ambiguousForms 25 = .ok (.iload_n 1, 1) := by decide +kernel
theorem dX1_ambiguousForms_26 : decode cX1_ambiguousForms 26 = .ok (.aaload, 1) := by decide +kernel
theorem dX1_ambiguousForms_27 : decode cX1_ambiguousForms 27 = .ok (.iload_n 3, 1) := by decide +kernel
theorem dX1_ambiguousForms_28 : decode cX1_ambiguousForms 28 = .ok (.iaload, 1) := by decide +kernel
theorem dX1_ambiguousForms_29 : decode cX1_ambiguousForms 29 = .ok (.invokevirtual 48, 3) := by decide +kernel
theorem dX1_ambiguousForms_32 : decode cX1_ambiguousForms 32 = .ok (.invokestatic 53, 3) := by decide +kernel
theorem dX1_ambiguousForms_35 : decode cX1_ambiguousForms 35 = .ok (.iconst 1, 1) := by decide +kernel
theorem dX1_ambiguousForms_36 : decode cX1_ambiguousForms 36 = .ok (.if_icmp .le 6, 3) := by decide +kernel
theorem dX1_ambiguousForms_39 : decode cX1_ambiguousForms 39 = .ok (.iinc 2 1, 3) := by decide +kernel
theorem dX1_ambiguousForms_42 : decode cX1_ambiguousForms 42 = .ok (.iinc 3 1, 3) := by decide +kernel
theorem dX1_ambiguousForms_45 : decode cX1_ambiguousForms 45 = .ok (.goto (-41), 3) := by decide +kernel
theorem dX1_ambiguousForms_48 : decode cX1_ambiguousForms 48 = .ok (.iload_n 2, 1) := by decide +kernel
theorem dX1_ambiguousForms_49 : decode cX1_ambiguousForms 49 = .ok (.ireturn, 1) := by decide +kernel
theorem dX1_canBeApproved_0 : decode cX1_canBeApproved 0 = .ok (.aload_n 0, 1) := by decide +kernel
theorem dX1_canBeApproved_1 : decode cX1_canBeApproved 1 = .ok (.getfield 15, 3) := by decide +kernel
theorem dX1_canBeApproved_4 : decode cX1_canBeApproved 4 = .ok (.iload_n 1, 1) := by decide +kernel
theorem dX1_canBeApproved_5 : decode cX1_canBeApproved 5 = .ok (.iaload, 1) := by decide +kernel
theorem dX1_canBeApproved_6 : decode cX1_canBeApproved 6 = .ok (.ifCond .le 26, 3) := by decide +kernel
theorem dX1_canBeApproved_9 : decode cX1_canBeApproved 9 = .ok (.aload_n 0, 1) := by decide +kernel
theorem dX1_canBeApproved_10 : decode cX1_canBeApproved 10 = .ok (.getfield 19, 3) := by decide +kernel
theorem dX1_canBeApproved_13 : decode cX1_canBeApproved 13 = .ok (.iload_n 1, 1) := by decide +kernel
theorem dX1_canBeApproved_14 : decode cX1_canBeApproved 14 = .ok (.iaload, 1) := by decide +kernel
theorem dX1_canBeApproved_15 : decode cX1_canBeApproved 15 = .ok (.iconst 1, 1) := by decide +kernel
theorem dX1_canBeApproved_16 : decode cX1_canBeApproved 16 = .ok (.if_icmp .eq 16, 3) := by decide +kernel
theorem dX1_canBeApproved_19 : decode cX1_canBeApproved 19 = .ok (.aload_n 0, 1) := by decide +kernel
theorem dX1_canBeApproved_20 : decode cX1_canBeApproved 20 = .ok (.iload_n 1, 1) := by decide +kernel
theorem dX1_canBeApproved_21 : decode cX1_canBeApproved 21 = .ok (.invokevirtual 98, 3) := by decide +kernel
theorem dX1_canBeApproved_24 : decode cX1_canBeApproved 24 = .ok (.iconst (-1), 1) := by decide +kernel
theorem dX1_canBeApproved_25 : decode cX1_canBeApproved 25 = .ok (.if_icmp .ne 7, 3) := by decide +kernel
theorem dX1_canBeApproved_28 : decode cX1_canBeApproved 28 = .ok (.iconst 1, 1) := by decide +kernel
theorem dX1_canBeApproved_29 : decode cX1_canBeApproved 29 = .ok (.goto 4, 3) := by decide +kernel
theorem dX1_canBeApproved_32 : decode cX1_canBeApproved 32 = .ok (.iconst 0, 1) := by decide +kernel
theorem dX1_canBeApproved_33 : decode cX1_canBeApproved 33 = .ok (.ireturn, 1) := by decide +kernel
theorem dX1_conceptsIn_0 : decode cX1_conceptsIn 0 = .ok (.iconst 0, 1) := by decide +kernel
theorem dX1_conceptsIn_1 : decode cX1_conceptsIn 1 = .ok (.istore_n 2, 1) := by decide +kernel
theorem dX1_conceptsIn_2 : decode cX1_conceptsIn 2 = .ok (.iconst 0, 1) := by decide +kernel
theorem dX1_conceptsIn_3 : decode cX1_conceptsIn 3 = .ok (.istore_n 3, 1) := by decide +kernel
theorem dX1_conceptsIn_4 : decode cX1_conceptsIn 4 = .ok (.iload_n 3, 1) := by decide +kernel
theorem dX1_conceptsIn_5 : decode cX1_conceptsIn 5 = .ok (.aload_n 0, 1) := by decide +kernel
theorem dX1_conceptsIn_6 : decode cX1_conceptsIn 6 = .ok (.getfield 15, 3) := by decide +kernel
theorem dX1_conceptsIn_9 : decode cX1_conceptsIn 9 = .ok (.iload_n 1, 1) := by decide +kernel
theorem dX1_conceptsIn_10 : decode cX1_conceptsIn 10 = .ok (.iaload, 1) := by decide +kernel
theorem dX1_conceptsIn_11 : decode cX1_conceptsIn 11 = .ok (.if_icmp .ge 46, 3) := by decide +kernel
theorem dX1_conceptsIn_14 : decode cX1_conceptsIn 14 = .ok (.aload_n 0, 1) := by decide +kernel
theorem dX1_conceptsIn_15 : decode cX1_conceptsIn 15 = .ok (.getfield 27, 3) := by decide +kernel
theorem dX1_conceptsIn_18 : decode cX1_conceptsIn 18 = .ok (.iload_n 1, 1) := by decide +kernel
theorem dX1_conceptsIn_19 : decode cX1_conceptsIn 19 = .ok (.aaload, 1) := by decide +kernel
theorem dX1_conceptsIn_20 : decode cX1_conceptsIn 20 = .ok (.iload_n 3, 1) := by decide +kernel
theorem dX1_conceptsIn_21 : decode cX1_conceptsIn 21 = .ok (.iaload, 1) := by decide +kernel
theorem dX1_conceptsIn_22 : decode cX1_conceptsIn 22 = .ok (.istore 4, 2) := by decide +kernel
theorem dX1_conceptsIn_24 : decode cX1_conceptsIn 24 = .ok (.aload_n 0, 1) := by decide +kernel
theorem dX1_conceptsIn_25 : decode cX1_conceptsIn 25 = .ok (.getfield 30, 3) := by decide +kernel
theorem dX1_conceptsIn_28 : decode cX1_conceptsIn 28 = .ok (.iload 4, 2) := by decide +kernel
theorem dX1_conceptsIn_30 : decode cX1_conceptsIn 30 = .ok (.invokevirtual 79, 3) := by decide +kernel
theorem dX1_conceptsIn_33 : decode cX1_conceptsIn 33 = .ok (.ifCond .eq 18, 3) := by decide +kernel
theorem dX1_conceptsIn_36 : decode cX1_conceptsIn 36 = .ok (.iload_n 2, 1) := by decide +kernel
theorem dX1_conceptsIn_37 : decode cX1_conceptsIn 37 = .ok (.iconst 1, 1) := by decide +kernel
theorem dX1_conceptsIn_38 : decode cX1_conceptsIn 38 = .ok (.aload_n 0, 1) := by decide +kernel
theorem dX1_conceptsIn_39 : decode cX1_conceptsIn 39 = .ok (.getfield 30, 3) := by decide +kernel
theorem dX1_conceptsIn_42 : decode cX1_conceptsIn 42 = .ok (.getfield 101, 3) := by decide +kernel
theorem dX1_conceptsIn_45 : decode cX1_conceptsIn 45 = .ok (.iload 4, 2) := by decide +kernel
theorem dX1_conceptsIn_47 : decode cX1_conceptsIn 47 = .ok (.iaload, 1) := by decide +kernel
theorem dX1_conceptsIn_48 : decode cX1_conceptsIn 48 = .ok (.ishl, 1) := by decide +kernel
theorem dX1_conceptsIn_49 : decode cX1_conceptsIn 49 = .ok (.ior, 1) := by decide +kernel
theorem dX1_conceptsIn_50 : decode cX1_conceptsIn 50 = .ok (.istore_n 2, 1) := by decide +kernel
theorem dX1_conceptsIn_51 : decode cX1_conceptsIn 51 = .ok (.iinc 3 1, 3) := by decide +kernel
theorem dX1_conceptsIn_54 : decode cX1_conceptsIn 54 = .ok (.goto (-50), 3) := by decide +kernel
theorem dX1_conceptsIn_57 : decode cX1_conceptsIn 57 = .ok (.iload_n 2, 1) := by decide +kernel
theorem dX1_conceptsIn_58 : decode cX1_conceptsIn 58 = .ok (.ireturn, 1) := by decide +kernel
theorem dX1_agreementOf_0 : decode cX1_agreementOf 0 = .ok (.iconst 0, 1) := by decide +kernel
theorem dX1_agreementOf_1 : decode cX1_agreementOf 1 = .ok (.istore_n 2, 1) := by decide +kernel
theorem dX1_agreementOf_2 : decode cX1_agreementOf 2 = .ok (.iconst (-1), 1) := by decide +kernel
theorem dX1_agreementOf_3 : decode cX1_agreementOf 3 = .ok (.istore_n 3, 1) := by decide +kernel
theorem dX1_agreementOf_4 : decode cX1_agreementOf 4 = .ok (.iconst 0, 1) := by decide +kernel
theorem dX1_agreementOf_5 : decode cX1_agreementOf 5 = .ok (.istore 4, 2) := by decide +kernel
theorem dX1_agreementOf_7 : decode cX1_agreementOf 7 = .ok (.iload 4, 2) := by decide +kernel
theorem dX1_agreementOf_9 : decode cX1_agreementOf 9 = .ok (.iconst 3, 1) := by decide +kernel
theorem dX1_agreementOf_10 : decode cX1_agreementOf 10 = .ok (.if_icmp .ge 45, 3) := by decide +kernel
theorem dX1_agreementOf_13 : decode cX1_agreementOf 13 = .ok (.iload_n 1, 1) := by decide +kernel
theorem dX1_agreementOf_14 : decode cX1_agreementOf 14 = .ok (.iconst 3, 1) := by decide +kernel
theorem dX1_agreementOf_15 : decode cX1_agreementOf 15 = .ok (.imul, 1) := by decide +kernel
theorem dX1_agreementOf_16 : decode cX1_agreementOf 16 = .ok (.iload 4, 2) := by decide +kernel
theorem dX1_agreementOf_18 : decode cX1_agreementOf 18 = .ok (.iadd, 1) := by decide +kernel
theorem dX1_agreementOf_19 : decode cX1_agreementOf 19 = .ok (.istore 5, 2) := by decide +kernel
theorem dX1_agreementOf_21 : decode cX1_agreementOf 21 = .ok (.aload_n 0, 1) := by decide +kernel
theorem dX1_agreementOf_22 : decode cX1_agreementOf 22 = .ok (.getfield 15, 3) := by decide +kernel
theorem dX1_agreementOf_25 : decode cX1_agreementOf 25 = .ok (.iload 5, 2) := by decide +kernel
theorem dX1_agreementOf_27 : decode cX1_agreementOf 27 = .ok (.iaload, 1) := by decide +kernel
theorem dX1_agreementOf_28 : decode cX1_agreementOf 28 = .ok (.ifCond .le 21, 3) := by decide +kernel
theorem dX1_agreementOf_31 : decode cX1_agreementOf 31 = .ok (.aload_n 0, 1) := by decide +kernel
theorem dX1_agreementOf_32 : decode cX1_agreementOf 32 = .ok (.iload 5, 2) := by decide +kernel
theorem dX1_agreementOf_34 : decode cX1_agreementOf 34 = .ok (.invokevirtual 104, 3) := by decide +kernel
theorem dX1_agreementOf_37 : decode cX1_agreementOf 37 = .ok (.istore 6, 2) := by decide +kernel
theorem dX1_agreementOf_39 : decode cX1_agreementOf 39 = .ok (.iload_n 2, 1) := by decide +kernel
theorem dX1_agreementOf_40 : decode cX1_agreementOf 40 = .ok (.iload 6, 2) := by decide +kernel
theorem dX1_agreementOf_42 : decode cX1_agreementOf 42 = .ok (.ior, 1) := by decide +kernel
theorem dX1_agreementOf_43 : decode cX1_agreementOf 43 = .ok (.istore_n 2, 1) := by decide +kernel
theorem dX1_agreementOf_44 : decode cX1_agreementOf 44 = .ok (.iload_n 3, 1) := by decide +kernel
theorem dX1_agreementOf_45 : decode cX1_agreementOf 45 = .ok (.iload 6, 2) := by decide +kernel
theorem dX1_agreementOf_47 : decode cX1_agreementOf 47 = .ok (.iand, 1) := by decide +kernel
theorem dX1_agreementOf_48 : decode cX1_agreementOf 48 = .ok (.istore_n 3, 1) := by decide +kernel
theorem dX1_agreementOf_49 : decode cX1_agreementOf 49 = .ok (.iinc 4 1, 3) := by decide +kernel
theorem dX1_agreementOf_52 : decode cX1_agreementOf 52 = .ok (.goto (-45), 3) := by decide +kernel
theorem dX1_agreementOf_55 : decode cX1_agreementOf 55 = .ok (.iload_n 2, 1) := by decide +kernel
theorem dX1_agreementOf_56 : decode cX1_agreementOf 56 = .ok (.invokestatic 53, 3) := by decide +kernel
theorem dX1_agreementOf_59 : decode cX1_agreementOf 59 = .ok (.istore 4, 2) := by decide +kernel
theorem dX1_agreementOf_61 : decode cX1_agreementOf 61 = .ok (.iload 4, 2) := by decide +kernel
theorem dX1_agreementOf_63 : decode cX1_agreementOf 63 = .ok (.ifCond .ne 8, 3) := by decide +kernel
theorem dX1_agreementOf_66 : decode cX1_agreementOf 66 = .ok (.bipush 100, 2) := by decide +kernel
theorem dX1_agreementOf_68 : decode cX1_agreementOf 68 = .ok (.goto 15, 3) := by decide +kernel
theorem dX1_agreementOf_71 : decode cX1_agreementOf 71 = .ok (.bipush 100, 2) := by decide +kernel
theorem dX1_agreementOf_73 : decode cX1_agreementOf 73 = .ok (.iload_n 2, 1) := by decide +kernel
theorem dX1_agreementOf_74 : decode cX1_agreementOf 74 = .ok (.iload_n 3, 1) := by decide +kernel
theorem dX1_agreementOf_75 : decode cX1_agreementOf 75 = .ok (.iand, 1) := by decide +kernel
theorem dX1_agreementOf_76 : decode cX1_agreementOf 76 = .ok (.invokestatic 53, 3) := by decide +kernel
theorem dX1_agreementOf_79 : decode cX1_agreementOf 79 = .ok (.imul, 1) := by decide +kernel
theorem dX1_agreementOf_80 : decode cX1_agreementOf 80 = .ok (.iload 4, 2) := by decide +kernel
theorem dX1_agreementOf_82 : decode cX1_agreementOf 82 = .ok (.idiv, 1) := by decide +kernel
theorem dX1_agreementOf_83 : decode cX1_agreementOf 83 = .ok (.ireturn, 1) := by decide +kernel
theorem dX1_approvedIn_0 : decode cX1_approvedIn 0 = .ok (.iconst 0, 1) := by decide +kernel
theorem dX1_approvedIn_1 : decode cX1_approvedIn 1 = .ok (.istore_n 2, 1) := by decide +kernel
theorem dX1_approvedIn_2 : decode cX1_approvedIn 2 = .ok (.iconst 0, 1) := by decide +kernel
theorem dX1_approvedIn_3 : decode cX1_approvedIn 3 = .ok (.istore_n 3, 1) := by decide +kernel
theorem dX1_approvedIn_4 : decode cX1_approvedIn 4 = .ok (.iload_n 3, 1) := by decide +kernel
theorem dX1_approvedIn_5 : decode cX1_approvedIn 5 = .ok (.iconst 3, 1) := by decide +kernel
theorem dX1_approvedIn_6 : decode cX1_approvedIn 6 = .ok (.if_icmp .ge 26, 3) := by decide +kernel
theorem dX1_approvedIn_9 : decode cX1_approvedIn 9 = .ok (.aload_n 0, 1) := by decide +kernel
theorem dX1_approvedIn_10 : decode cX1_approvedIn 10 = .ok (.getfield 19, 3) := by decide +kernel
theorem dX1_approvedIn_13 : decode cX1_approvedIn 13 = .ok (.iload_n 1, 1) := by decide +kernel
theorem dX1_approvedIn_14 : decode cX1_approvedIn 14 = .ok (.iconst 3, 1) := by decide +kernel
theorem dX1_approvedIn_15 : decode cX1_approvedIn 15 = .ok (.imul, 1) := by decide +kernel
theorem dX1_approvedIn_16 : decode cX1_approvedIn 16 = .ok (.iload_n 3, 1) := by decide +kernel
theorem dX1_approvedIn_17 : decode cX1_approvedIn 17 = .ok (.iadd, 1) := by decide +kernel
theorem dX1_approvedIn_18 : decode cX1_approvedIn 18 = .ok (.iaload, 1) := by decide +kernel
theorem dX1_approvedIn_19 : decode cX1_approvedIn 19 = .ok (.iconst 1, 1) := by decide +kernel
theorem dX1_approvedIn_20 : decode cX1_approvedIn 20 = .ok (.if_icmp .ne 6, 3) := by decide +kernel
theorem dX1_approvedIn_23 : decode cX1_approvedIn 23 = .ok (.iinc 2 1, 3) := by decide +kernel
theorem dX1_approvedIn_26 : decode cX1_approvedIn 26 = .ok (.iinc 3 1, 3) := by decide +kernel
theorem dX1_approvedIn_29 : decode cX1_approvedIn 29 = .ok (.goto (-25), 3) := by decide +kernel
theorem dX1_approvedIn_32 : decode cX1_approvedIn 32 = .ok (.iload_n 2, 1) := by decide +kernel
theorem dX1_approvedIn_33 : decode cX1_approvedIn 33 = .ok (.ireturn, 1) := by decide +kernel
theorem dX1_hasApprovedUseOf_0 : decode cX1_hasApprovedUseOf 0 = .ok (.iconst 0, 1) := by decide +kernel
theorem dX1_hasApprovedUseOf_1 : decode cX1_hasApprovedUseOf 1 = .ok (.istore_n 3, 1) := by decide +kernel
theorem dX1_hasApprovedUseOf_2 : decode cX1_hasApprovedUseOf 2 = .ok (.iload_n 3, 1) := by decide +kernel
theorem dX1_hasApprovedUseOf_3 : decode cX1_hasApprovedUseOf 3 = .ok (.iconst 3, 1) := by decide +kernel
theorem dX1_hasApprovedUseOf_4 : decode cX1_hasApprovedUseOf 4 = .ok (.if_icmp .ge 39, 3) := by decide +kernel
theorem dX1_hasApprovedUseOf_7 : decode cX1_hasApprovedUseOf 7 = .ok (.iload_n 1, 1) := by decide +kernel
theorem dX1_hasApprovedUseOf_8 : decode cX1_hasApprovedUseOf 8 = .ok (.iconst 3, 1) := by decide +kernel
theorem dX1_hasApprovedUseOf_9 : decode cX1_hasApprovedUseOf 9 = .ok (.imul, 1) := by decide +kernel
theorem dX1_hasApprovedUseOf_10 : decode cX1_hasApprovedUseOf 10 = .ok (.iload_n 3, 1) := by decide +kernel
theorem dX1_hasApprovedUseOf_11 : decode cX1_hasApprovedUseOf 11 = .ok (.iadd, 1) := by decide +kernel
theorem dX1_hasApprovedUseOf_12 : decode cX1_hasApprovedUseOf 12 = .ok (.istore 4, 2) := by decide +kernel
theorem dX1_hasApprovedUseOf_14 : decode cX1_hasApprovedUseOf 14 = .ok (.aload_n 0, 1) := by decide +kernel
theorem dX1_hasApprovedUseOf_15 : decode cX1_hasApprovedUseOf 15 = .ok (.getfield 19, 3) := by decide +kernel
theorem dX1_hasApprovedUseOf_18 : decode cX1_hasApprovedUseOf 18 = .ok (.iload 4, 2) := by decide +kernel
theorem dX1_hasApprovedUseOf_20 : decode cX1_hasApprovedUseOf 20 = .ok (.iaload, 1) := by decide +kernel
theorem dX1_hasApprovedUseOf_21 : decode cX1_hasApprovedUseOf 21 = .ok (.iconst 1, 1) := by decide +kernel
theorem dX1_hasApprovedUseOf_22 : decode cX1_hasApprovedUseOf 22 = .ok (.if_icmp .ne 15, 3) := by decide +kernel
theorem dX1_hasApprovedUseOf_25 : decode cX1_hasApprovedUseOf 25 = .ok (.aload_n 0, 1) := by decide +kernel
theorem dX1_hasApprovedUseOf_26 : decode cX1_hasApprovedUseOf 26 = .ok (.iload 4, 2) := by decide +kernel
theorem dX1_hasApprovedUseOf_28 : decode cX1_hasApprovedUseOf 28 = .ok (.iload_n 2, 1) := by decide +kernel
theorem dX1_hasApprovedUseOf_29 : decode cX1_hasApprovedUseOf 29 = .ok (.invokevirtual 92, 3) := by decide +kernel
theorem dX1_hasApprovedUseOf_32 : decode cX1_hasApprovedUseOf 32 = .ok (.ifCond .le 5, 3) := by decide +kernel
theorem dX1_hasApprovedUseOf_35 : decode cX1_hasApprovedUseOf 35 = .ok (.iconst 1, 1) := by decide +kernel
theorem dX1_hasApprovedUseOf_36 : decode cX1_hasApprovedUseOf 36 = .ok (.ireturn, 1) := by decide +kernel
theorem dX1_hasApprovedUseOf_37 : decode cX1_hasApprovedUseOf 37 = .ok (.iinc 3 1, 3) := by decide +kernel
theorem dX1_hasApprovedUseOf_40 : decode cX1_hasApprovedUseOf 40 = .ok (.goto (-38), 3) := by decide +kernel
theorem dX1_hasApprovedUseOf_43 : decode cX1_hasApprovedUseOf 43 = .ok (.iconst 0, 1) := by decide +kernel
theorem dX1_hasApprovedUseOf_44 : decode cX1_hasApprovedUseOf 44 = .ok (.ireturn, 1) := by decide +kernel
theorem dX1_reopen_0 : decode cX1_reopen 0 = .ok (.iconst 0, 1) := by decide +kernel
theorem dX1_reopen_1 : decode cX1_reopen 1 = .ok (.istore_n 2, 1) := by decide +kernel
theorem dX1_reopen_2 : decode cX1_reopen 2 = .ok (.iload_n 2, 1) := by decide +kernel
theorem dX1_reopen_3 : decode cX1_reopen 3 = .ok (.iconst 3, 1) := by decide +kernel
theorem dX1_reopen_4 : decode cX1_reopen 4 = .ok (.if_icmp .ge 32, 3) := by decide +kernel
theorem dX1_reopen_7 : decode cX1_reopen 7 = .ok (.iload_n 1, 1) := by decide +kernel
theorem dX1_reopen_8 : decode cX1_reopen 8 = .ok (.iconst 3, 1) := by decide +kernel
theorem dX1_reopen_9 : decode cX1_reopen 9 = .ok (.imul, 1) := by decide +kernel
theorem dX1_reopen_10 : decode cX1_reopen 10 = .ok (.iload_n 2, 1) := by decide +kernel
theorem dX1_reopen_11 : decode cX1_reopen 11 = .ok (.iadd, 1) := by decide +kernel
theorem dX1_reopen_12 : decode cX1_reopen 12 = .ok (.istore_n 3, 1) := by decide +kernel
theorem dX1_reopen_13 : decode cX1_reopen 13 = .ok (.aload_n 0, 1) := by decide +kernel
theorem dX1_reopen_14 : decode cX1_reopen 14 = .ok (.getfield 19, 3) := by decide +kernel
theorem dX1_reopen_17 : decode cX1_reopen 17 = .ok (.iload_n 3, 1) := by decide +kernel
theorem dX1_reopen_18 : decode cX1_reopen 18 = .ok (.iaload, 1) := by decide +kernel
theorem dX1_reopen_19 : decode cX1_reopen 19 = .ok (.iconst 1, 1) := by decide +kernel
theorem dX1_reopen_20 : decode cX1_reopen 20 = .ok (.if_icmp .ne 10, 3) := by decide +kernel
theorem dX1_reopen_23 : decode cX1_reopen 23 = .ok (.aload_n 0, 1) := by decide +kernel
theorem dX1_reopen_24 : decode cX1_reopen 24 = .ok (.getfield 19, 3) := by decide +kernel
theorem dX1_reopen_27 : decode cX1_reopen 27 = .ok (.iload_n 3, 1) := by decide +kernel
theorem dX1_reopen_28 : decode cX1_reopen 28 = .ok (.iconst 2, 1) := by decide +kernel
theorem dX1_reopen_29 : decode cX1_reopen 29 = .ok (.iastore, 1) := by decide +kernel
theorem dX1_reopen_30 : decode cX1_reopen 30 = .ok (.iinc 2 1, 3) := by decide +kernel
theorem dX1_reopen_33 : decode cX1_reopen 33 = .ok (.goto (-31), 3) := by decide +kernel
theorem dX1_reopen_36 : decode cX1_reopen 36 = .ok (.return_, 1) := by decide +kernel
theorem dX1_reopenedByOverdue_0 : decode cX1_reopenedByOverdue 0 = .ok (.iconst 0, 1) := by decide +kernel
theorem dX1_reopenedByOverdue_1 : decode cX1_reopenedByOverdue 1 = .ok (.istore_n 2, 1) := by decide +kernel
theorem dX1_reopenedByOverdue_2 : decode cX1_reopenedByOverdue 2 = .ok (.iconst 0, 1) := by decide +kernel
theorem dX1_reopenedByOverdue_3 : decode cX1_reopenedByOverdue 3 = .ok (.istore_n 3, 1) := by decide +kernel
theorem dX1_reopenedByOverdue_4 : decode cX1_reopenedByOverdue 4 = .ok (.iload_n 3, 1) := by decide +kernel
theorem dX1_reopenedByOverdue_5 : decode cX1_reopenedByOverdue 5 = .ok (.aload_n 0, 1) := by decide +kernel
theorem dX1_reopenedByOverdue_6 : decode cX1_reopenedByOverdue 6 = .ok (.getfield 9, 3) := by decide +kernel
theorem dX1_reopenedByOverdue_9 : decode cX1_reopenedByOverdue 9 = .ok (.if_icmp .ge 26, 3) := by decide +kernel
theorem dX1_reopenedByOverdue_12 : decode cX1_reopenedByOverdue 12 = .ok (.aload_n 0, 1) := by decide +kernel
theorem dX1_reopenedByOverdue_13 : decode cX1_reopenedByOverdue 13 = .ok (.iload_n 3, 1) := by decide +kernel
theorem dX1_reopenedByOverdue_14 : decode cX1_reopenedByOverdue 14 = .ok (.iload_n 1, 1) := by decide +kernel
theorem dX1_reopenedByOverdue_15 : decode cX1_reopenedByOverdue 15 = .ok (.invokevirtual 107, 3) := by decide +kernel
theorem dX1_reopenedByOverdue_18 : decode cX1_reopenedByOverdue 18 = .ok (.ifCond .eq 11, 3) := by decide +kernel
theorem dX1_reopenedByOverdue_21 : decode cX1_reopenedByOverdue 21 = .ok (.iload_n 2, 1) := by decide +kernel
theorem dX1_reopenedByOverdue_22 : decode cX1_reopenedByOverdue 22 = .ok (.aload_n 0, 1) := by decide +kernel
theorem dX1_reopenedByOverdue_23 : decode cX1_reopenedByOverdue 23 = .ok (.iload_n 3, 1) := by decide +kernel
theorem dX1_reopenedByOverdue_24 : decode cX1_reopenedByOverdue 24 = .ok (.invokevirtual 110, 3) := by decide +kernel
theorem dX1_reopenedByOverdue_27 : decode cX1_reopenedByOverdue 27 = .ok (.iadd, 1) := by decide +kernel
theorem dX1_reopenedByOverdue_28 : decode cX1_reopenedByOverdue 28 = .ok (.istore_n 2, 1) := by decide +kernel
theorem dX1_reopenedByOverdue_29 : decode cX1_reopenedByOverdue 29 = .ok (.iinc 3 1, 3) := by decide +kernel
theorem dX1_reopenedByOverdue_32 : decode cX1_reopenedByOverdue 32 = .ok (.goto (-28), 3) := by decide +kernel
theorem dX1_reopenedByOverdue_35 : decode cX1_reopenedByOverdue 35 = .ok (.iload_n 2, 1) := by decide +kernel
theorem dX1_reopenedByOverdue_36 : decode cX1_reopenedByOverdue 36 = .ok (.ireturn, 1) := by decide +kernel
theorem dX1_reopenDue_0 : decode cX1_reopenDue 0 = .ok (.aload_n 0, 1) := by decide +kernel
theorem dX1_reopenDue_1 : decode cX1_reopenDue 1 = .ok (.getfield 30, 3) := by decide +kernel
theorem dX1_reopenDue_4 : decode cX1_reopenDue 4 = .ok (.iload_n 1, 1) := by decide +kernel
theorem dX1_reopenDue_5 : decode cX1_reopenDue 5 = .ok (.invokevirtual 113, 3) := by decide +kernel
theorem dX1_reopenDue_8 : decode cX1_reopenDue 8 = .ok (.istore_n 2, 1) := by decide +kernel
theorem dX1_reopenDue_9 : decode cX1_reopenDue 9 = .ok (.aload_n 0, 1) := by decide +kernel
theorem dX1_reopenDue_10 : decode cX1_reopenDue 10 = .ok (.iload_n 2, 1) := by decide +kernel
theorem dX1_reopenDue_11 : decode cX1_reopenDue 11 = .ok (.invokevirtual 116, 3) := by decide +kernel
theorem dX1_reopenDue_14 : decode cX1_reopenDue 14 = .ok (.istore_n 3, 1) := by decide +kernel
theorem dX1_reopenDue_15 : decode cX1_reopenDue 15 = .ok (.iconst 0, 1) := by decide +kernel
theorem dX1_reopenDue_16 : decode cX1_reopenDue 16 = .ok (.istore 4, 2) := by decide +kernel
theorem dX1_reopenDue_18 : decode cX1_reopenDue 18 = .ok (.iload 4, 2) := by decide +kernel
theorem dX1_reopenDue_20 : decode cX1_reopenDue 20 = .ok (.aload_n 0, 1) := by decide +kernel
theorem dX1_reopenDue_21 : decode cX1_reopenDue 21 = .ok (.getfield 9, 3) := by decide +kernel
theorem dX1_reopenDue_24 : decode cX1_reopenDue 24 = .ok (.if_icmp .ge 25, 3) := by decide +kernel
theorem dX1_reopenDue_27 : decode cX1_reopenDue 27 = .ok (.aload_n 0, 1) := by decide +kernel
theorem dX1_reopenDue_28 : decode cX1_reopenDue 28 = .ok (.iload 4, 2) := by decide +kernel
theorem dX1_reopenDue_30 : decode cX1_reopenDue 30 = .ok (.iload_n 2, 1) := by decide +kernel
theorem dX1_reopenDue_31 : decode cX1_reopenDue 31 = .ok (.invokevirtual 107, 3) := by decide +kernel
theorem dX1_reopenDue_34 : decode cX1_reopenDue 34 = .ok (.ifCond .eq 9, 3) := by decide +kernel
theorem dX1_reopenDue_37 : decode cX1_reopenDue 37 = .ok (.aload_n 0, 1) := by decide +kernel
theorem dX1_reopenDue_38 : decode cX1_reopenDue 38 = .ok (.iload 4, 2) := by decide +kernel
theorem dX1_reopenDue_40 : decode cX1_reopenDue 40 = .ok (.invokevirtual 119, 3) := by decide +kernel
theorem dX1_reopenDue_43 : decode cX1_reopenDue 43 = .ok (.iinc 4 1, 3) := by decide +kernel
theorem dX1_reopenDue_46 : decode cX1_reopenDue 46 = .ok (.goto (-28), 3) := by decide +kernel
theorem dX1_reopenDue_49 : decode cX1_reopenDue 49 = .ok (.iload_n 3, 1) := by decide +kernel
theorem dX1_reopenDue_50 : decode cX1_reopenDue 50 = .ok (.ireturn, 1) := by decide +kernel
theorem dX1_usesAmong_0 : decode cX1_usesAmong 0 = .ok (.iconst 0, 1) := by decide +kernel
theorem dX1_usesAmong_1 : decode cX1_usesAmong 1 = .ok (.istore_n 2, 1) := by decide +kernel
theorem dX1_usesAmong_2 : decode cX1_usesAmong 2 = .ok (.iconst 0, 1) := by decide +kernel
theorem dX1_usesAmong_3 : decode cX1_usesAmong 3 = .ok (.istore_n 3, 1) := by decide +kernel
theorem dX1_usesAmong_4 : decode cX1_usesAmong 4 = .ok (.iload_n 3, 1) := by decide +kernel
theorem dX1_usesAmong_5 : decode cX1_usesAmong 5 = .ok (.aload_n 0, 1) := by decide +kernel
theorem dX1_usesAmong_6 : decode cX1_usesAmong 6 = .ok (.invokevirtual 83, 3) := by decide +kernel
theorem dX1_usesAmong_9 : decode cX1_usesAmong 9 = .ok (.if_icmp .ge 18, 3) := by decide +kernel
theorem dX1_usesAmong_12 : decode cX1_usesAmong 12 = .ok (.iload_n 2, 1) := by decide +kernel
theorem dX1_usesAmong_13 : decode cX1_usesAmong 13 = .ok (.aload_n 0, 1) := by decide +kernel
theorem dX1_usesAmong_14 : decode cX1_usesAmong 14 = .ok (.iload_n 3, 1) := by decide +kernel
theorem dX1_usesAmong_15 : decode cX1_usesAmong 15 = .ok (.iload_n 1, 1) := by decide +kernel
theorem dX1_usesAmong_16 : decode cX1_usesAmong 16 = .ok (.invokevirtual 92, 3) := by decide +kernel
theorem dX1_usesAmong_19 : decode cX1_usesAmong 19 = .ok (.iadd, 1) := by decide +kernel
theorem dX1_usesAmong_20 : decode cX1_usesAmong 20 = .ok (.istore_n 2, 1) := by decide +kernel
theorem dX1_usesAmong_21 : decode cX1_usesAmong 21 = .ok (.iinc 3 1, 3) := by decide +kernel
theorem dX1_usesAmong_24 : decode cX1_usesAmong 24 = .ok (.goto (-20), 3) := by decide +kernel
theorem dX1_usesAmong_27 : decode cX1_usesAmong 27 = .ok (.iload_n 2, 1) := by decide +kernel
theorem dX1_usesAmong_28 : decode cX1_usesAmong 28 = .ok (.ireturn, 1) := by decide +kernel
theorem dX1_documentsWith_0 : decode cX1_documentsWith 0 = .ok (.iconst 0, 1) := by decide +kernel
theorem dX1_documentsWith_1 : decode cX1_documentsWith 1 = .ok (.istore_n 2, 1) := by decide +kernel
theorem dX1_documentsWith_2 : decode cX1_documentsWith 2 = .ok (.iconst 0, 1) := by decide +kernel
theorem dX1_documentsWith_3 : decode cX1_documentsWith 3 = .ok (.istore_n 3, 1) := by decide +kernel
theorem dX1_documentsWith_4 : decode cX1_documentsWith 4 = .ok (.iload_n 3, 1) := by decide +kernel
theorem dX1_documentsWith_5 : decode cX1_documentsWith 5 = .ok (.aload_n 0, 1) := by decide +kernel
theorem dX1_documentsWith_6 : decode cX1_documentsWith 6 = .ok (.getfield 9, 3) := by decide +kernel
theorem dX1_documentsWith_9 : decode cX1_documentsWith 9 = .ok (.if_icmp .ge 51, 3) := by decide +kernel
theorem dX1_documentsWith_12 : decode cX1_documentsWith 12 = .ok (.iconst 0, 1) := by decide +kernel
theorem dX1_documentsWith_13 : decode cX1_documentsWith 13 = .ok (.istore 4, 2) := by decide +kernel
theorem dX1_documentsWith_15 : decode cX1_documentsWith 15 = .ok (.iconst 0, 1) := by decide +kernel
theorem dX1_documentsWith_16 : decode cX1_documentsWith 16 = .ok (.istore 5, 2) := by decide +kernel
theorem dX1_documentsWith_18 : decode cX1_documentsWith 18 = .ok (.iload 5, 2) := by decide +kernel
theorem dX1_documentsWith_20 : decode cX1_documentsWith 20 = .ok (.iconst 3, 1) := by decide +kernel
theorem dX1_documentsWith_21 : decode cX1_documentsWith 21 = .ok (.if_icmp .ge 25, 3) := by decide +kernel
theorem dX1_documentsWith_24 : decode cX1_documentsWith 24 = .ok (.iload 4, 2) := by decide +kernel
theorem dX1_documentsWith_26 : decode cX1_documentsWith 26 = .ok (.aload_n 0, 1) := by decide +kernel
theorem dX1_documentsWith_27 : decode cX1_documentsWith 27 = .ok (.iload_n 3, 1) := by decide +kernel
theorem dX1_documentsWith_28 : decode cX1_documentsWith 28 = .ok (.iconst 3, 1) := by decide +kernel
theorem dX1_documentsWith_29 : decode cX1_documentsWith 29 = .ok (.imul, 1) := by decide +kernel
theorem dX1_documentsWith_30 : decode cX1_documentsWith 30 = .ok (.iload 5, 2) := by decide +kernel
theorem dX1_documentsWith_32 : decode cX1_documentsWith 32 = .ok (.iadd, 1) := by decide +kernel
theorem dX1_documentsWith_33 : decode cX1_documentsWith 33 = .ok (.iload_n 1, 1) := by decide +kernel
theorem dX1_documentsWith_34 : decode cX1_documentsWith 34 = .ok (.invokevirtual 92, 3) := by decide +kernel
theorem dX1_documentsWith_37 : decode cX1_documentsWith 37 = .ok (.iadd, 1) := by decide +kernel
theorem dX1_documentsWith_38 : decode cX1_documentsWith 38 = .ok (.istore 4, 2) := by decide +kernel
theorem dX1_documentsWith_40 : decode cX1_documentsWith 40 = .ok (.iinc 5 1, 3) := by decide +kernel
theorem dX1_documentsWith_43 : decode cX1_documentsWith 43 = .ok (.goto (-25), 3) := by decide +kernel
theorem dX1_documentsWith_46 : decode cX1_documentsWith 46 = .ok (.iload 4, 2) := by decide +kernel
theorem dX1_documentsWith_48 : decode cX1_documentsWith 48 = .ok (.ifCond .le 6, 3) := by decide +kernel
theorem dX1_documentsWith_51 : decode cX1_documentsWith 51 = .ok (.iinc 2 1, 3) := by decide +kernel
theorem dX1_documentsWith_54 : decode cX1_documentsWith 54 = .ok (.iinc 3 1, 3) := by decide +kernel
theorem dX1_documentsWith_57 : decode cX1_documentsWith 57 = .ok (.goto (-53), 3) := by decide +kernel
theorem dX1_documentsWith_60 : decode cX1_documentsWith 60 = .ok (.iload_n 2, 1) := by decide +kernel
theorem dX1_documentsWith_61 : decode cX1_documentsWith 61 = .ok (.ireturn, 1) := by decide +kernel
theorem dX1_textsInState_0 : decode cX1_textsInState 0 = .ok (.iconst 0, 1) := by decide +kernel
theorem dX1_textsInState_1 : decode cX1_textsInState 1 = .ok (.istore_n 2, 1) := by decide +kernel
theorem dX1_textsInState_2 : decode cX1_textsInState 2 = .ok (.iconst 0, 1) := by decide +kernel
theorem dX1_textsInState_3 : decode cX1_textsInState 3 = .ok (.istore_n 3, 1) := by decide +kernel
theorem dX1_textsInState_4 : decode cX1_textsInState 4 = .ok (.iload_n 3, 1) := by decide +kernel
theorem dX1_textsInState_5 : decode cX1_textsInState 5 = .ok (.aload_n 0, 1) := by decide +kernel
theorem dX1_textsInState_6 : decode cX1_textsInState 6 = .ok (.invokevirtual 83, 3) := by decide +kernel
theorem dX1_textsInState_9 : decode cX1_textsInState 9 = .ok (.if_icmp .ge 31, 3) := by decide +kernel
theorem dX1_textsInState_12 : decode cX1_textsInState 12 = .ok (.aload_n 0, 1) := by decide +kernel
theorem dX1_textsInState_13 : decode cX1_textsInState 13 = .ok (.getfield 15, 3) := by decide +kernel
theorem dX1_textsInState_16 : decode cX1_textsInState 16 = .ok (.iload_n 3, 1) := by decide +kernel
theorem dX1_textsInState_17 : decode cX1_textsInState 17 = .ok (.iaload, 1) := by decide +kernel
theorem dX1_textsInState_18 : decode cX1_textsInState 18 = .ok (.ifCond .le 16, 3) := by decide +kernel
theorem dX1_textsInState_21 : decode cX1_textsInState 21 = .ok (.aload_n 0, 1) := by decide +kernel
theorem dX1_textsInState_22 : decode cX1_textsInState 22 = .ok (.getfield 19, 3) := by decide +kernel
theorem dX1_textsInState_25 : decode cX1_textsInState 25 = .ok (.iload_n 3, 1) := by decide +kernel
theorem dX1_textsInState_26 : decode cX1_textsInState 26 = .ok (.iaload, 1) := by decide +kernel
theorem dX1_textsInState_27 : decode cX1_textsInState 27 = .ok (.iload_n 1, 1) := by decide +kernel
theorem dX1_textsInState_28 : decode cX1_textsInState 28 = .ok (.if_icmp .ne 6, 3) := by decide +kernel
theorem dX1_textsInState_31 : decode cX1_textsInState 31 = .ok (.iinc 2 1, 3) := by decide +kernel
theorem dX1_textsInState_34 : decode cX1_textsInState 34 = .ok (.iinc 3 1, 3) := by decide +kernel
theorem dX1_textsInState_37 : decode cX1_textsInState 37 = .ok (.goto (-33), 3) := by decide +kernel
theorem dX1_textsInState_40 : decode cX1_textsInState 40 = .ok (.iload_n 2, 1) := by decide +kernel
theorem dX1_textsInState_41 : decode cX1_textsInState 41 = .ok (.ireturn, 1) := by decide +kernel
theorem dX1_textsWithForms_0 : decode cX1_textsWithForms 0 = .ok (.iconst 0, 1) := by decide +kernel
theorem dX1_textsWithForms_1 : decode cX1_textsWithForms 1 = .ok (.istore_n 1, 1) := by decide +kernel
theorem dX1_textsWithForms_2 : decode cX1_textsWithForms 2 = .ok (.iconst 0, 1) := by decide +kernel
theorem dX1_textsWithForms_3 : decode cX1_textsWithForms 3 = .ok (.istore_n 2, 1) := by decide +kernel
theorem dX1_textsWithForms_4 : decode cX1_textsWithForms 4 = .ok (.iload_n 2, 1) := by decide +kernel
theorem dX1_textsWithForms_5 : decode cX1_textsWithForms 5 = .ok (.aload_n 0, 1) := by decide +kernel
theorem dX1_textsWithForms_6 : decode cX1_textsWithForms 6 = .ok (.invokevirtual 83, 3) := by decide +kernel
theorem dX1_textsWithForms_9 : decode cX1_textsWithForms 9 = .ok (.if_icmp .ge 21, 3) := by decide +kernel
theorem dX1_textsWithForms_12 : decode cX1_textsWithForms 12 = .ok (.aload_n 0, 1) := by decide +kernel
theorem dX1_textsWithForms_13 : decode cX1_textsWithForms 13 = .ok (.getfield 15, 3) := by decide +kernel
theorem dX1_textsWithForms_16 : decode cX1_textsWithForms 16 = .ok (.iload_n 2, 1) := by decide +kernel
theorem dX1_textsWithForms_17 : decode cX1_textsWithForms 17 = .ok (.iaload, 1) := by decide +kernel
theorem dX1_textsWithForms_18 : decode cX1_textsWithForms 18 = .ok (.ifCond .le 6, 3) := by decide +kernel
theorem dX1_textsWithForms_21 : decode cX1_textsWithForms 21 = .ok (.iinc 1 1, 3) := by decide +kernel
theorem dX1_textsWithForms_24 : decode cX1_textsWithForms 24 = .ok (.iinc 2 1, 3) := by decide +kernel
theorem dX1_textsWithForms_27 : decode cX1_textsWithForms 27 = .ok (.goto (-23), 3) := by decide +kernel
theorem dX1_textsWithForms_30 : decode cX1_textsWithForms 30 = .ok (.iload_n 1, 1) := by decide +kernel
theorem dX1_textsWithForms_31 : decode cX1_textsWithForms 31 = .ok (.ireturn, 1) := by decide +kernel
theorem dX1_sumOfConsistencies_0 : decode cX1_sumOfConsistencies 0 = .ok (.iconst 0, 1) := by decide +kernel
theorem dX1_sumOfConsistencies_1 : decode cX1_sumOfConsistencies 1 = .ok (.istore_n 1, 1) := by decide +kernel
theorem dX1_sumOfConsistencies_2 : decode cX1_sumOfConsistencies 2 = .ok (.iconst 0, 1) := by decide +kernel
theorem dX1_sumOfConsistencies_3 : decode cX1_sumOfConsistencies 3 = .ok (.istore_n 2, 1) := by decide +kernel
theorem dX1_sumOfConsistencies_4 : decode cX1_sumOfConsistencies 4 = .ok (.iload_n 2, 1) := by decide +kernel
theorem dX1_sumOfConsistencies_5 : decode cX1_sumOfConsistencies 5 = .ok (.aload_n 0, 1) := by decide +kernel
theorem dX1_sumOfConsistencies_6 : decode cX1_sumOfConsistencies 6 = .ok (.invokevirtual 83, 3) := by decide +kernel
theorem dX1_sumOfConsistencies_9 : decode cX1_sumOfConsistencies 9 = .ok (.if_icmp .ge 26, 3) := by decide +kernel
theorem dX1_sumOfConsistencies_12 : decode cX1_sumOfConsistencies 12 = .ok (.aload_n 0, 1) := by decide +kernel
theorem dX1_sumOfConsistencies_13 : decode cX1_sumOfConsistencies 13 = .ok (.getfield 15, 3) := by decide +kernel
theorem dX1_sumOfConsistencies_16 : decode cX1_sumOfConsistencies 16 = .ok (.iload_n 2, 1) := by decide +kernel
theorem dX1_sumOfConsistencies_17 : decode cX1_sumOfConsistencies 17 = .ok (.iaload, 1) := by decide +kernel
theorem dX1_sumOfConsistencies_18 : decode cX1_sumOfConsistencies 18 = .ok (.ifCond .le 11, 3) := by decide +kernel
theorem dX1_sumOfConsistencies_21 : decode cX1_sumOfConsistencies 21 = .ok (.iload_n 1, 1) := by decide +kernel
theorem dX1_sumOfConsistencies_22 : decode cX1_sumOfConsistencies 22 = .ok (.aload_n 0, 1) := by decide +kernel
theorem dX1_sumOfConsistencies_23 : decode cX1_sumOfConsistencies 23 = .ok (.iload_n 2, 1) := by decide +kernel
theorem dX1_sumOfConsistencies_24 : decode cX1_sumOfConsistencies 24 = .ok (.invokevirtual 122, 3) := by decide +kernel
theorem dX1_sumOfConsistencies_27 : decode cX1_sumOfConsistencies 27 = .ok (.iadd, 1) := by decide +kernel
theorem dX1_sumOfConsistencies_28 : decode cX1_sumOfConsistencies 28 = .ok (.istore_n 1, 1) := by decide +kernel
theorem dX1_sumOfConsistencies_29 : decode cX1_sumOfConsistencies 29 = .ok (.iinc 2 1, 3) := by decide +kernel
theorem dX1_sumOfConsistencies_32 : decode cX1_sumOfConsistencies 32 = .ok (.goto (-28), 3) := by decide +kernel
theorem dX1_sumOfConsistencies_35 : decode cX1_sumOfConsistencies 35 = .ok (.iload_n 1, 1) := by decide +kernel
theorem dX1_sumOfConsistencies_36 : decode cX1_sumOfConsistencies 36 = .ok (.ireturn, 1) := by decide +kernel
