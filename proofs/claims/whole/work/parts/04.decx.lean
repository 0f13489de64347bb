theorem dX1_init_0 : decode cX1_init 0 = .ok (.aload_n 0, 1) := by decide +kernel
theorem dX1_init_1 : decode cX1_init 1 = .ok (.invokespecial 1, 3) := by decide +kernel
theorem dX1_init_4 : decode cX1_init 4 = .ok (.aload_n 0, 1) := by decide +kernel
theorem dX1_init_5 : decode cX1_init 5 = .ok (.getstatic 7, 3) := by decide +kernel
theorem dX1_init_8 : decode cX1_init 8 = .ok (.putfield 13, 3) := by decide +kernel
theorem dX1_init_11 : decode cX1_init 11 = .ok (.return_, 1) := by decide +kernel
theorem dX1_setNumber_0 : decode cX1_setNumber 0 = .ok (.iload_n 1, 1) := by decide +kernel
theorem dX1_setNumber_1 : decode cX1_setNumber 1 = .ok (.ifCond .ne 11, 3) := by decide +kernel
theorem dX1_setNumber_4 : decode cX1_setNumber 4 = .ok (.aload_n 0, 1) := by decide +kernel
theorem dX1_setNumber_5 : decode cX1_setNumber 5 = .ok (.iload_n 2, 1) := by decide +kernel
theorem dX1_setNumber_6 : decode cX1_setNumber 6 = .ok (.putfield 18, 3) := by decide +kernel
theorem dX1_setNumber_9 : decode cX1_setNumber 9 = .ok (.goto 21, 3) := by decide +kernel
theorem dX1_setNumber_12 : decode cX1_setNumber 12 = .ok (.iload_n 1, 1) := by decide +kernel
theorem dX1_setNumber_13 : decode cX1_setNumber 13 = .ok (.iconst 1, 1) := by decide +kernel
theorem dX1_setNumber_14 : decode cX1_setNumber 14 = .ok (.if_icmp .ne 11, 3) := by decide +kernel
theorem dX1_setNumber_17 : decode cX1_setNumber 17 = .ok (.aload_n 0, 1) := by decide +kernel
theorem dX1_setNumber_18 : decode cX1_setNumber 18 = .ok (.iload_n 2, 1) := by decide +kernel
theorem dX1_setNumber_19 : decode cX1_setNumber 19 = .ok (.putfield 22, 3) := by decide +kernel
theorem dX1_setNumber_22 : decode cX1_setNumber 22 = .ok (.goto 8, 3) := by decide +kernel
theorem dX1_setNumber_25 : decode cX1_setNumber 25 = .ok (.aload_n 0, 1) := by decide +kernel
theorem dX1_setNumber_26 : decode cX1_setNumber 26 = .ok (.iload_n 2, 1) := by decide +kernel
theorem dX1_setNumber_27 : decode cX1_setNumber 27 = .ok (.putfield 25, 3) := by decide +kernel
theorem dX1_setNumber_30 : decode cX1_setNumber 30 = .ok (.return_, 1) := by decide +kernel
theorem dX2_init_0 : decode cX2_init 0 = .ok (.aload_n 0, 1) := by decide +kernel
theorem dX2_init_1 : decode cX2_init 1 = .ok (.invokespecial 3, 3) := by decide +kernel
theorem dX2_init_4 : decode cX2_init 4 = .ok (.aload_n 0, 1) := by decide +kernel
theorem dX2_init_5 : decode cX2_init 5 = .ok (.new 9, 3) := by decide +kernel
theorem dX2_init_8 : decode cX2_init 8 = .ok (.dup, 1) := by decide +kernel
theorem dX2_init_9 : decode cX2_init 9 = .ok (.invokespecial 11, 3) := by decide +kernel
theorem dX2_init_12 : decode cX2_init 12 = .ok (.putfield 12, 3) := by decide +kernel
theorem dX2_init_15 : decode cX2_init 15 = .ok (.aload_n 0, 1) := by decide +kernel
theorem dX2_init_16 : decode cX2_init 16 = .ok (.bipush 12, 2) := by decide +kernel
theorem dX2_init_18 : decode cX2_init 18 = .ok (.anewarray 18, 3) := by decide +kernel
theorem dX2_init_21 : decode cX2_init 21 = .ok (.putfield 20, 3) := by decide +kernel
theorem dX2_init_24 : decode cX2_init 24 = .ok (.iconst 0, 1) := by decide +kernel
theorem dX2_init_25 : decode cX2_init 25 = .ok (.istore_n 1, 1) := by decide +kernel
theorem dX2_init_26 : decode cX2_init 26 = .ok (.iload_n 1, 1) := by decide +kernel
theorem dX2_init_27 : decode cX2_init 27 = .ok (.bipush 12, 2) := by decide +kernel
theorem dX2_init_29 : decode cX2_init 29 = .ok (.if_icmp .ge 22, 3) := by decide +kernel
theorem dX2_init_32 : decode cX2_init 32 = .ok (.aload_n 0, 1) := by decide +kernel
theorem dX2_init_33 : decode cX2_init 33 = .ok (.getfield 20, 3) := by decide +kernel
theorem dX2_init_36 : decode cX2_init 36 = .ok (.iload_n 1, 1) := by decide +kernel
theorem dX2_init_37 : decode cX2_init 37 = .ok (.new 18, 3) := by decide +kernel
theorem dX2_init_40 : decode cX2_init 40 = .ok (.dup, 1) := by decide +kernel
theorem dX2_init_41 : decode cX2_init 41 = .ok (.invokespecial 24, 3) := by decide +kernel
theorem dX2_init_44 : decode cX2_init 44 = .ok (.aastore, 1) := by decide +kernel
theorem dX2_init_45 : decode cX2_init 45 = .ok (.iinc 1 1, 3) := by decide +kernel
theorem dX2_init_48 : decode cX2_init 48 = .ok (.goto (-22), 3) := by decide +kernel
theorem dX2_init_51 : decode cX2_init 51 = .ok (.return_, 1) := by decide +kernel
theorem dX2_readAll_0 : decode cX2_readAll 0 = .ok (.aload_n 0, 1) := by decide +kernel
theorem dX2_readAll_1 : decode cX2_readAll 1 = .ok (.iconst 0, 1) := by decide +kernel
theorem dX2_readAll_2 : decode cX2_readAll 2 = .ok (.putfield 25, 3) := by decide +kernel
theorem dX2_readAll_5 : decode cX2_readAll 5 = .ok (.aload_n 0, 1) := by decide +kernel
theorem dX2_readAll_6 : decode cX2_readAll 6 = .ok (.iconst 0, 1) := by decide +kernel
theorem dX2_readAll_7 : decode cX2_readAll 7 = .ok (.putfield 29, 3) := by decide +kernel
theorem dX2_readAll_10 : decode cX2_readAll 10 = .ok (.aload_n 0, 1) := by decide +kernel
theorem dX2_readAll_11 : decode cX2_readAll 11 = .ok (.getfield 29, 3) := by decide +kernel
theorem dX2_readAll_14 : decode cX2_readAll 14 = .ok (.bipush 12, 2) := by decide +kernel
theorem dX2_readAll_16 : decode cX2_readAll 16 = .ok (.if_icmp .ge 58, 3) := by decide +kernel
theorem dX2_readAll_19 : decode cX2_readAll 19 = .ok (.aload_n 0, 1) := by decide +kernel
theorem dX2_readAll_20 : decode cX2_readAll 20 = .ok (.aload_n 0, 1) := by decide +kernel
theorem dX2_readAll_21 : decode cX2_readAll 21 = .ok (.getfield 20, 3) := by decide +kernel
theorem dX2_readAll_24 : decode cX2_readAll 24 = .ok (.aload_n 0, 1) := by decide +kernel
theorem dX2_readAll_25 : decode cX2_readAll 25 = .ok (.getfield 29, 3) := by decide +kernel
theorem dX2_readAll_28 : decode cX2_readAll 28 = .ok (.aaload, 1) := by decide +kernel
theorem dX2_readAll_29 : decode cX2_readAll 29 = .ok (.invokevirtual 32, 3) := by decide +kernel
theorem dX2_readAll_32 : decode cX2_readAll 32 = .ok (.ifCond .ne 5, 3) := by decide +kernel
theorem dX2_readAll_35 : decode cX2_readAll 35 = .ok (.iconst 0, 1) := by decide +kernel
theorem dX2_readAll_36 : decode cX2_readAll 36 = .ok (.ireturn, 1) := by decide +kernel
theorem dX2_readAll_37 : decode cX2_readAll 37 = .ok (.aload_n 0, 1) := by decide +kernel
theorem dX2_readAll_38 : decode cX2_readAll 38 = .ok (.dup, 1) := by decide +kernel
theorem dX2_readAll_39 : decode cX2_readAll 39 = .ok (.getfield 29, 3) := by decide +kernel
theorem dX2_readAll_42 : decode cX2_readAll 42 = .ok (.iconst 1, 1) := by decide +kernel
theorem dX2_readAll_43 : decode cX2_readAll 43 = .ok (.iadd, 1) := by decide +kernel
theorem dX2_readAll_44 : decode cX2_readAll 44 = .ok (.putfield 29, 3) := by decide +kernel
theorem dX2_readAll_47 : decode cX2_readAll 47 = .ok (.aload_n 0, 1) := by decide +kernel
theorem dX2_readAll_48 : decode cX2_readAll 48 = .ok (.getfield 25, 3) := by decide +kernel
theorem dX2_readAll_51 : decode cX2_readAll 51 = .ok (.aload_n 0, 1) := by decide +kernel
theorem dX2_readAll_52 : decode cX2_readAll 52 = .ok (.getfield 12, 3) := by decide +kernel
theorem dX2_readAll_55 : decode cX2_readAll 55 = .ok (.invokevirtual 36, 3) := by decide +kernel
theorem dX2_readAll_58 : decode cX2_readAll 58 = .ok (.if_icmp .ne 5, 3) := by decide +kernel
theorem dX2_readAll_61 : decode cX2_readAll 61 = .ok (.iconst 1, 1) := by decide +kernel
theorem dX2_readAll_62 : decode cX2_readAll 62 = .ok (.ireturn, 1) := by decide +kernel
theorem dX2_readAll_63 : decode cX2_readAll 63 = .ok (.aload_n 0, 1) := by decide +kernel
theorem dX2_readAll_64 : decode cX2_readAll 64 = .ok (.bipush 59, 2) := by decide +kernel
theorem dX2_readAll_66 : decode cX2_readAll 66 = .ok (.invokevirtual 40, 3) := by decide +kernel
theorem dX2_readAll_69 : decode cX2_readAll 69 = .ok (.ifCond .ne (-59), 3) := by decide +kernel
theorem dX2_readAll_72 : decode cX2_readAll 72 = .ok (.iconst 0, 1) := by decide +kernel
theorem dX2_readAll_73 : decode cX2_readAll 73 = .ok (.ireturn, 1) := by decide +kernel
theorem dX2_readAll_74 : decode cX2_readAll 74 = .ok (.iconst 0, 1) := by decide +kernel
theorem dX2_readAll_75 : decode cX2_readAll 75 = .ok (.ireturn, 1) := by decide +kernel
theorem dX2_readCommand_0 : decode cX2_readCommand 0 = .ok (.aload_n 0, 1) := by decide +kernel
theorem dX2_readCommand_1 : decode cX2_readCommand 1 = .ok (.aload_n 1, 1) := by decide +kernel
theorem dX2_readCommand_2 : decode cX2_readCommand 2 = .ok (.invokevirtual 44, 3) := by decide +kernel
theorem dX2_readCommand_5 : decode cX2_readCommand 5 = .ok (.ifCond .ne 5, 3) := by decide +kernel
theorem dX2_readCommand_8 : decode cX2_readCommand 8 = .ok (.iconst 0, 1) := by decide +kernel
theorem dX2_readCommand_9 : decode cX2_readCommand 9 = .ok (.ireturn, 1) := by decide +kernel
theorem dX2_readCommand_10 : decode cX2_readCommand 10 = .ok (.aload_n 1, 1) := by decide +kernel
theorem dX2_readCommand_11 : decode cX2_readCommand 11 = .ok (.getfield 47, 3) := by decide +kernel
theorem dX2_readCommand_14 : decode cX2_readCommand 14 = .ok (.getfield 51, 3) := by decide +kernel
theorem dX2_readCommand_17 : decode cX2_readCommand 17 = .ok (.astore_n 2, 1) := by decide +kernel
theorem dX2_readCommand_18 : decode cX2_readCommand 18 = .ok (.iconst 0, 1) := by decide +kernel
theorem dX2_readCommand_19 : decode cX2_readCommand 19 = .ok (.istore_n 3, 1) := by decide +kernel
theorem dX2_readCommand_20 : decode cX2_readCommand 20 = .ok (.iconst 0, 1) := by decide +kernel
theorem dX2_readCommand_21 : decode cX2_readCommand 21 = .ok (.istore 4, 2) := by decide +kernel
theorem dX2_readCommand_23 : decode cX2_readCommand 23 = .ok (.iload 4, 2) := by decide +kernel
theorem dX2_readCommand_25 : decode cX2_readCommand 25 = .ok (.aload_n 2, 1) := by decide +kernel
theorem dX2_readCommand_26 : decode cX2_readCommand 26 = .ok (.invokevirtual 57, 3) := by decide +kernel
theorem dX2_readCommand_29 : decode cX2_readCommand 29 = .ok (.if_icmp .ge 68, 3) := by decide +kernel
theorem dX2_readCommand_32 : decode cX2_readCommand 32 = .ok (.aload_n 2, 1) := by decide +kernel
theorem dX2_readCommand_33 : decode cX2_readCommand 33 = .ok (.iload 4, 2) := by decide +kernel
theorem dX2_readCommand_35 : decode cX2_readCommand 35 = .ok (.invokevirtual 60, 3) := by decide +kernel
theorem dX2_readCommand_38 : decode cX2_readCommand 38 = .ok (.bipush 32, 2) := by decide +kernel
theorem dX2_readCommand_40 : decode cX2_readCommand 40 = .ok (.if_icmp .ne 14, 3) := by decide +kernel
theorem dX2_readCommand_43 : decode cX2_readCommand 43 = .ok (.aload_n 0, 1) := by decide +kernel
theorem dX2_readCommand_44 : decode cX2_readCommand 44 = .ok (.bipush 32, 2) := by decide +kernel
theorem dX2_readCommand_46 : decode cX2_readCommand 46 = .ok (.invokevirtual 40, 3) := by decide +kernel
theorem dX2_readCommand_49 : decode cX2_readCommand 49 = .ok (.ifCond .ne 42, 3) := by decide +kernel
theorem dX2_readCommand_52 : decode cX2_readCommand 52 = .ok (.iconst 0, 1) := by decide +kernel
theorem dX2_readCommand_53 : decode cX2_readCommand 53 = .ok (.ireturn, 1) := by decide +kernel
theorem dX2_readCommand_54 : decode cX2_readCommand 54 = .ok (.aload_n 0, 1) := by decide +kernel
theorem dX2_readCommand_55 : decode cX2_readCommand 55 = .ok (.invokevirtual 64, 3) := by decide +kernel
theorem dX2_readCommand_58 : decode cX2_readCommand 58 = .ok (.ifCond .ne 5, 3) := by decide +kernel
theorem dX2_readCommand_61 : decode cX2_readCommand 61 = .ok (.iconst 0, 1) := by decide +kernel
theorem dX2_readCommand_62 : decode cX2_readCommand 62 = .ok (.ireturn, 1) := by decide +kernel
theorem dX2_readCommand_63 : decode cX2_readCommand 63 = .ok (.aload_n 1, 1) := by decide +kernel
theorem dX2_readCommand_64 : decode cX2_readCommand 64 = .ok (.iload_n 3, 1) := by decide +kernel
theorem dX2_readCommand_65 : decode cX2_readCommand 65 = .ok (.aload_n 0, 1) := by decide +kernel
theorem dX2_readCommand_66 : decode cX2_readCommand 66 = .ok (.aload_n 2, 1) := by decide +kernel
theorem dX2_readCommand_67 : decode cX2_readCommand 67 = .ok (.iload 4, 2) := by decide +kernel
theorem dX2_readCommand_69 : decode cX2_readCommand 69 = .ok (.invokevirtual 60, 3) := by decide +kernel
theorem dX2_readCommand_72 : decode cX2_readCommand 72 = .ok (.bipush 110, 2) := by decide +kernel
theorem dX2_readCommand_74 : decode cX2_readCommand 74 = .ok (.if_icmp .ne 7, 3) := by decide +kernel
theorem dX2_readCommand_77 : decode cX2_readCommand 77 = .ok (.iconst 1, 1) := by decide +kernel
theorem dX2_readCommand_78 : decode cX2_readCommand 78 = .ok (.goto 4, 3) := by decide +kernel
theorem dX2_readCommand_81 : decode cX2_readCommand 81 = .ok (.iconst 0, 1) := by decide +kernel
theorem dX2_readCommand_82 : decode cX2_readCommand 82 = .ok (.invokevirtual 68, 3) := by decide +kernel
theorem dX2_readCommand_85 : decode cX2_readCommand 85 = .ok (.invokevirtual 72, 3) := by decide +kernel
theorem dX2_readCommand_88 : decode cX2_readCommand 88 = .ok (.iinc 3 1, 3) := by decide +kernel
theorem dX2_readCommand_91 : decode cX2_readCommand 91 = .ok (.iinc 4 1, 3) := by decide +kernel
theorem dX2_readCommand_94 : decode cX2_readCommand 94 = .ok (.goto (-71), 3) := by decide +kernel
theorem dX2_readCommand_97 : decode cX2_readCommand 97 = .ok (.iconst 1, 1) := by decide +kernel
theorem dX2_readCommand_98 : decode cX2_readCommand 98 = .ok (.ireturn, 1) := by decide +kernel
theorem dX2_readKeyword_0 : decode cX2_readKeyword 0 = .ok (.iconst 0, 1) := by decide +kernel
theorem dX2_readKeyword_1 : decode cX2_readKeyword 1 = .ok (.istore_n 2, 1) := by decide +kernel
theorem dX2_readKeyword_2 : decode cX2_readKeyword 2 = .ok (.getstatic 76, 3) := by decide +kernel
theorem dX2_readKeyword_5 : decode cX2_readKeyword 5 = .ok (.astore_n 3, 1) := by decide +kernel
theorem dX2_readKeyword_6 : decode cX2_readKeyword 6 = .ok (.aload_n 3, 1) := by decide +kernel
theorem dX2_readKeyword_7 : decode cX2_readKeyword 7 = .ok (.arraylength, 1) := by decide +kernel
theorem dX2_readKeyword_8 : decode cX2_readKeyword 8 = .ok (.istore 4, 2) := by decide +kernel
theorem dX2_readKeyword_10 : decode cX2_readKeyword 10 = .ok (.iconst 0, 1) := by decide +kernel
theorem dX2_readKeyword_11 : decode cX2_readKeyword 11 = .ok (.istore 5, 2) := by decide +kernel
theorem dX2_readKeyword_13 : decode cX2_readKeyword 13 = .ok (.iload 5, 2) := by decide +kernel
theorem dX2_readKeyword_15 : decode cX2_readKeyword 15 = .ok (.iload 4, 2) := by decide +kernel
theorem dX2_readKeyword_17 : decode cX2_readKeyword 17 = .ok (.if_icmp .ge 65, 3) := by decide +kernel
theorem dX2_readKeyword_20 : decode cX2_readKeyword 20 = .ok (.aload_n 3, 1) := by decide +kernel
theorem dX2_readKeyword_21 : decode cX2_readKeyword 21 = .ok (.iload 5, 2) := by decide +kernel
theorem dX2_readKeyword_23 : decode cX2_readKeyword 23 = .ok (.aaload, 1) := by decide +kernel
theorem dX2_readKeyword_24 : decode cX2_readKeyword 24 = .ok (.astore 6, 2) := by decide +kernel
theorem dX2_readKeyword_26 : decode cX2_readKeyword 26 = .ok (.aload_n 0, 1) := by decide +kernel
theorem dX2_readKeyword_27 : decode cX2_readKeyword 27 = .ok (.aload 6, 2) := by decide +kernel
theorem dX2_readKeyword_29 : decode cX2_readKeyword 29 = .ok (.getfield 80, 3) := by decide +kernel
theorem dX2_readKeyword_32 : decode cX2_readKeyword 32 = .ok (.invokevirtual 83, 3) := by decide +kernel
theorem dX2_readKeyword_35 : decode cX2_readKeyword 35 = .ok (.istore 7, 2) := by decide +kernel
theorem dX2_readKeyword_37 : decode cX2_readKeyword 37 = .ok (.iload 7, 2) := by decide +kernel
theorem dX2_readKeyword_39 : decode cX2_readKeyword 39 = .ok (.aload 6, 2) := by decide +kernel
theorem dX2_readKeyword_41 : decode cX2_readKeyword 41 = .ok (.getfield 80, 3) := by decide +kernel
theorem dX2_readKeyword_44 : decode cX2_readKeyword 44 = .ok (.invokevirtual 57, 3) := by decide +kernel
theorem dX2_readKeyword_47 : decode cX2_readKeyword 47 = .ok (.if_icmp .ne 22, 3) := by decide +kernel
theorem dX2_readKeyword_50 : decode cX2_readKeyword 50 = .ok (.aload_n 0, 1) := by decide +kernel
theorem dX2_readKeyword_51 : decode cX2_readKeyword 51 = .ok (.dup, 1) := by decide +kernel
theorem dX2_readKeyword_52 : decode cX2_readKeyword 52 = .ok (.getfield 25, 3) := by decide +kernel
theorem dX2_readKeyword_55 : decode cX2_readKeyword 55 = .ok (.iload 7, 2) := by decide +kernel
theorem dX2_readKeyword_57 : decode cX2_readKeyword 57 = .ok (.iadd, 1) := by decide +kernel
theorem dX2_readKeyword_58 : decode cX2_readKeyword 58 = .ok (.putfield 25, 3) := by decide +kernel
theorem dX2_readKeyword_61 : decode cX2_readKeyword 61 = .ok (.aload_n 1, 1) := by decide +kernel
theorem dX2_readKeyword_62 : decode cX2_readKeyword 62 = .ok (.aload 6, 2) := by decide +kernel
theorem dX2_readKeyword_64 : decode cX2_readKeyword 64 = .ok (.putfield 47, 3) := by decide +kernel
theorem dX2_readKeyword_67 : decode cX2_readKeyword 67 = .ok (.iconst 1, 1) := by decide +kernel
theorem dX2_readKeyword_68 : decode cX2_readKeyword 68 = .ok (.ireturn, 1) := by decide +kernel
theorem dX2_readKeyword_69 : decode cX2_readKeyword 69 = .ok (.iload_n 2, 1) := by decide +kernel
theorem dX2_readKeyword_70 : decode cX2_readKeyword 70 = .ok (.iload 7, 2) := by decide +kernel
theorem dX2_readKeyword_72 : decode cX2_readKeyword 72 = .ok (.invokestatic 87, 3) := by decide +kernel
theorem dX2_readKeyword_75 : decode cX2_readKeyword 75 = .ok (.istore_n 2, 1) := by decide +kernel
theorem dX2_readKeyword_76 : decode cX2_readKeyword 76 = .ok (.iinc 5 1, 3) := by decide +kernel
theorem dX2_readKeyword_79 : decode cX2_readKeyword 79 = .ok (.goto (-66), 3) := by decide +kernel
theorem dX2_readKeyword_82 : decode cX2_readKeyword 82 = .ok (.aload_n 0, 1) := by decide +kernel
theorem dX2_readKeyword_83 : decode cX2_readKeyword 83 = .ok (.dup, 1) := by decide +kernel
theorem dX2_readKeyword_84 : decode cX2_readKeyword 84 = .ok (.getfield 25, 3) := by decide +kernel
theorem dX2_readKeyword_87 : decode cX2_readKeyword 87 = .ok (.iload_n 2, 1) := by decide +kernel
theorem dX2_readKeyword_88 : decode cX2_readKeyword 88 = .ok (.iadd, 1) := by decide +kernel
theorem dX2_readKeyword_89 : decode cX2_readKeyword 89 = .ok (.putfield 25, 3) := by decide +kernel
theorem dX2_readKeyword_92 : decode cX2_readKeyword 92 = .ok (.iconst 0, 1) := by decide +kernel
theorem dX2_readKeyword_93 : decode cX2_readKeyword 93 = .ok (.ireturn, 1) := by decide +kernel
theorem dX2_countAlike_0 : decode cX2_countAlike 0 = .ok (.iconst 0, 1) := by decide +kernel
theorem dX2_countAlike_1 : decode cX2_countAlike 1 = .ok (.istore_n 2, 1) := by decide +kernel
theorem dX2_countAlike_2 : decode cX2_countAlike 2 = .ok (.iload_n 2, 1) := by decide +kernel
theorem dX2_countAlike_3 : decode cX2_countAlike 3 = .ok (.aload_n 1, 1) := by decide +kernel
theorem dX2_countAlike_4 : decode cX2_countAlike 4 = .ok (.invokevirtual 57, 3) := by decide +kernel
theorem dX2_countAlike_7 : decode cX2_countAlike 7 = .ok (.if_icmp .ge 46, 3) := by decide +kernel
theorem dX2_countAlike_10 : decode cX2_countAlike 10 = .ok (.aload_n 0, 1) := by decide +kernel
theorem dX2_countAlike_11 : decode cX2_countAlike 11 = .ok (.getfield 25, 3) := by decide +kernel
theorem dX2_countAlike_14 : decode cX2_countAlike 14 = .ok (.iload_n 2, 1) := by decide +kernel
theorem dX2_countAlike_15 : decode cX2_countAlike 15 = .ok (.iadd, 1) := by decide +kernel
theorem dX2_countAlike_16 : decode cX2_countAlike 16 = .ok (.aload_n 0, 1) := by decide +kernel
theorem dX2_countAlike_17 : decode cX2_countAlike 17 = .ok (.getfield 12, 3) := by decide +kernel
theorem dX2_countAlike_20 : decode cX2_countAlike 20 = .ok (.invokevirtual 36, 3) := by decide +kernel
theorem dX2_countAlike_23 : decode cX2_countAlike 23 = .ok (.if_icmp .ge 30, 3) := by decide +kernel
theorem dX2_countAlike_26 : decode cX2_countAlike 26 = .ok (.aload_n 0, 1) := by decide +kernel
theorem dX2_countAlike_27 : decode cX2_countAlike 27 = .ok (.getfield 12, 3) := by decide +kernel
theorem dX2_countAlike_30 : decode cX2_countAlike 30 = .ok (.aload_n 0, 1) := by decide +kernel
theorem dX2_countAlike_31 : decode cX2_countAlike 31 = .ok (.getfield 25, 3) := by decide +kernel
theorem dX2_countAlike_34 : decode cX2_countAlike 34 = .ok (.iload_n 2, 1) := by decide +kernel
theorem dX2_countAlike_35 : decode cX2_countAlike 35 = .ok (.iadd, 1) := by decide +kernel
theorem dX2_countAlike_36 : decode cX2_countAlike 36 = .ok (.invokevirtual 93, 3) := by decide +kernel
theorem dX2_countAlike_39 : decode cX2_countAlike 39 = .ok (.aload_n 1, 1) := by decide +kernel
theorem dX2_countAlike_40 : decode cX2_countAlike 40 = .ok (.iload_n 2, 1) := by decide +kernel
theorem dX2_countAlike_41 : decode cX2_countAlike 41 = .ok (.invokevirtual 60, 3) := by decide +kernel
theorem dX2_countAlike_44 : decode cX2_countAlike 44 = .ok (.if_icmp .ne 9, 3) := by decide +kernel
theorem dX2_countAlike_47 : decode cX2_countAlike 47 = .ok (.iinc 2 1, 3) := by decide +kernel
theorem dX2_countAlike_50 : decode cX2_countAlike 50 = .ok (.goto (-48), 3) := by decide +kernel
theorem dX2_countAlike_53 : decode cX2_countAlike 53 = .ok (.iload_n 2, 1) := by decide +kernel
theorem dX2_countAlike_54 : decode cX2_countAlike 54 = .ok (.ireturn, 1) := by decide +kernel
theorem dX2_readSign_0 : decode cX2_readSign 0 = .ok (.aload_n 0, 1) := by decide +kernel
theorem dX2_readSign_1 : decode cX2_readSign 1 = .ok (.getfield 25, 3) := by decide +kernel
theorem dX2_readSign_4 : decode cX2_readSign 4 = .ok (.aload_n 0, 1) := by decide +kernel
theorem dX2_readSign_5 : decode cX2_readSign 5 = .ok (.getfield 12, 3) := by decide +kernel
theorem dX2_readSign_8 : decode cX2_readSign 8 = .ok (.invokevirtual 36, 3) := by decide +kernel
theorem dX2_readSign_11 : decode cX2_readSign 11 = .ok (.if_icmp .ge 18, 3) := by decide +kernel
theorem dX2_readSign_14 : decode cX2_readSign 14 = .ok (.aload_n 0, 1) := by decide +kernel
theorem dX2_readSign_15 : decode cX2_readSign 15 = .ok (.getfield 12, 3) := by decide +kernel
theorem dX2_readSign_18 : decode cX2_readSign 18 = .ok (.aload_n 0, 1) := by decide +kernel
theorem dX2_readSign_19 : decode cX2_readSign 19 = .ok (.getfield 25, 3) := by decide +kernel
theorem dX2_readSign_22 : decode cX2_readSign 22 = .ok (.invokevirtual 93, 3) := by decide +kernel
theorem dX2_readSign_25 : decode cX2_readSign 25 = .ok (.iload_n 1, 1) := by decide +kernel
theorem dX2_readSign_26 : decode cX2_readSign 26 = .ok (.if_icmp .eq 5, 3) := by decide +kernel
theorem dX2_readSign_29 : decode cX2_readSign 29 = .ok (.iconst 0, 1) := by decide +kernel
theorem dX2_readSign_30 : decode cX2_readSign 30 = .ok (.ireturn, 1) := by decide +kernel
theorem dX2_readSign_31 : decode cX2_readSign 31 = .ok (.aload_n 0, 1) := by decide +kernel
theorem dX2_readSign_32 : decode cX2_readSign 32 = .ok (.dup, 1) := by decide +kernel
theorem dX2_readSign_33 : decode cX2_readSign 33 = .ok (.getfield 25, 3) := by decide +kernel
theorem dX2_readSign_36 : decode cX2_readSign 36 = .ok (.iconst 1, 1) := by decide +kernel
theorem dX2_readSign_37 : decode cX2_readSign 37 = .ok (.iadd, 1) := by decide +kernel
theorem dX2_readSign_38 : decode cX2_readSign 38 = .ok (.putfield 25, 3) := by decide +kernel
theorem dX2_readSign_41 : decode cX2_readSign 41 = .ok (.iconst 1, 1) := by decide +kernel
theorem dX2_readSign_42 : decode cX2_readSign 42 = .ok (.ireturn, 1) := by decide +kernel
theorem dX2_isDigitNext_0 : decode cX2_isDigitNext 0 = .ok (.aload_n 0, 1) := by decide +kernel
theorem dX2_isDigitNext_1 : decode cX2_isDigitNext 1 = .ok (.getfield 25, 3) := by decide +kernel
theorem dX2_isDigitNext_4 : decode cX2_isDigitNext 4 = .ok (.aload_n 0, 1) := by decide +kernel
theorem dX2_isDigitNext_5 : decode cX2_isDigitNext 5 = .ok (.getfield 12, 3) := by decide +kernel
theorem dX2_isDigitNext_8 : decode cX2_isDigitNext 8 = .ok (.invokevirtual 36, 3) := by decide +kernel
theorem dX2_isDigitNext_11 : decode cX2_isDigitNext 11 = .ok (.if_icmp .ge 39, 3) := by decide +kernel
theorem dX2_isDigitNext_14 : decode cX2_isDigitNext 14 = .ok (.aload_n 0, 1) := by decide +kernel
theorem dX2_isDigitNext_15 : decode cX2_isDigitNext 15 = .ok (.getfield 12, 3) := by decide +kernel
theorem dX2_isDigitNext_18 : decode cX2_isDigitNext 18 = .ok (.aload_n 0, 1) := by decide +kernel
theorem dX2_isDigitNext_19 : decode cX2_isDigitNext 19 = .ok (.getfield 25, 3) := by decide +kernel
theorem dX2_isDigitNext_22 : decode cX2_isDigitNext 22 = .ok (.invokevirtual 93, 3) := by decide +kernel
theorem dX2_isDigitNext_25 : decode cX2_isDigitNext 25 = .ok (.bipush 48, 2) := by decide +kernel
theorem dX2_isDigitNext_27 : decode cX2_isDigitNext 27 = .ok (.if_icmp .lt 23, 3) := by decide +kernel
theorem dX2_isDigitNext_30 : decode cX2_isDigitNext 30 = .ok (.aload_n 0, 1) := by decide +kernel
theorem dX2_isDigitNext_31 : decode cX2_isDigitNext 31 = .ok (.getfield 12, 3) := by decide +kernel
theorem dX2_isDigitNext_34 : decode cX2_isDigitNext 34 = .ok (.aload_n 0, 1) := by decide +kernel
theorem dX2_isDigitNext_35 : decode cX2_isDigitNext 35 = .ok (.getfield 25, 3) := by decide +kernel
theorem dX2_isDigitNext_38 : decode cX2_isDigitNext 38 = .ok (.invokevirtual 93, 3) := by decide +kernel
theorem dX2_isDigitNext_41 : decode cX2_isDigitNext 41 = .ok (.bipush 57, 2) := by decide +kernel
theorem dX2_isDigitNext_43 : decode cX2_isDigitNext 43 = .ok (.if_icmp .gt 7, 3) := by decide +kernel
theorem dX2_isDigitNext_46 : decode cX2_isDigitNext 46 = .ok (.iconst 1, 1) := by decide +kernel
theorem dX2_isDigitNext_47 : decode cX2_isDigitNext 47 = .ok (.goto 4, 3) := by decide +kernel
theorem dX2_isDigitNext_50 : decode cX2_isDigitNext 50 = .ok (.iconst 0, 1) := by decide +kernel
theorem dX2_isDigitNext_51 : decode cX2_isDigitNext 51 = .ok (.ireturn, 1) := by decide +kernel
theorem dX2_readNumber_0 : decode cX2_readNumber 0 = .ok (.aload_n 0, 1) := by decide +kernel
theorem dX2_readNumber_1 : decode cX2_readNumber 1 = .ok (.invokevirtual 94, 3) := by decide +kernel
theorem dX2_readNumber_4 : decode cX2_readNumber 4 = .ok (.istore_n 2, 1) := by decide +kernel
theorem dX2_readNumber_5 : decode cX2_readNumber 5 = .ok (.iload_n 1, 1) := by decide +kernel
theorem dX2_readNumber_6 : decode cX2_readNumber 6 = .ok (.ifCond .eq 20, 3) := by decide +kernel
theorem dX2_readNumber_9 : decode cX2_readNumber 9 = .ok (.aload_n 0, 1) := by decide +kernel
theorem dX2_readNumber_10 : decode cX2_readNumber 10 = .ok (.invokevirtual 64, 3) := by decide +kernel
theorem dX2_readNumber_13 : decode cX2_readNumber 13 = .ok (.ifCond .eq 13, 3) := by decide +kernel
theorem dX2_readNumber_16 : decode cX2_readNumber 16 = .ok (.bipush 10, 2) := by decide +kernel
theorem dX2_readNumber_18 : decode cX2_readNumber 18 = .ok (.iload_n 2, 1) := by decide +kernel
theorem dX2_readNumber_19 : decode cX2_readNumber 19 = .ok (.imul, 1) := by decide +kernel
theorem dX2_readNumber_20 : decode cX2_readNumber 20 = .ok (.aload_n 0, 1) := by decide +kernel
theorem dX2_readNumber_21 : decode cX2_readNumber 21 = .ok (.invokevirtual 94, 3) := by decide +kernel
theorem dX2_readNumber_24 : decode cX2_readNumber 24 = .ok (.iadd, 1) := by decide +kernel
theorem dX2_readNumber_25 : decode cX2_readNumber 25 = .ok (.istore_n 2, 1) := by decide +kernel
theorem dX2_readNumber_26 : decode cX2_readNumber 26 = .ok (.iload_n 2, 1) := by decide +kernel
theorem dX2_readNumber_27 : decode cX2_readNumber 27 = .ok (.ireturn, 1) := by decide +kernel
theorem dX2_readDigit_0 : decode cX2_readDigit 0 = .ok (.aload_n 0, 1) := by decide +kernel
theorem dX2_readDigit_1 : decode cX2_readDigit 1 = .ok (.getfield 12, 3) := by decide +kernel
theorem dX2_readDigit_4 : decode cX2_readDigit 4 = .ok (.aload_n 0, 1) := by decide +kernel
theorem dX2_readDigit_5 : decode cX2_readDigit 5 = .ok (.getfield 25, 3) := by decide +kernel
theorem dX2_readDigit_8 : decode cX2_readDigit 8 = .ok (.invokevirtual 93, 3) := by decide +kernel
theorem dX2_readDigit_11 : decode cX2_readDigit 11 = .ok (.bipush 48, 2) := by decide +kernel
theorem dX2_readDigit_13 : decode cX2_readDigit 13 = .ok (.isub, 1) := by decide +kernel
theorem dX2_readDigit_14 : decode cX2_readDigit 14 = .ok (.istore_n 1, 1) := by decide +kernel
theorem dX2_readDigit_15 : decode cX2_readDigit 15 = .ok (.aload_n 0, 1) := by decide +kernel
theorem dX2_readDigit_16 : decode cX2_readDigit 16 = .ok (.dup, 1) := by decide +kernel
theorem dX2_readDigit_17 : decode cX2_readDigit 17 = .ok (.getfield 25, 3) := by decide +kernel
theorem dX2_readDigit_20 : decode cX2_readDigit 20 = .ok (.iconst 1, 1) := by decide +kernel
theorem dX2_readDigit_21 : decode cX2_readDigit 21 = .ok (.iadd, 1) := by decide +kernel
theorem dX2_readDigit_22 : decode cX2_readDigit 22 = .ok (.putfield 25, 3) := by decide +kernel
theorem dX2_readDigit_25 : decode cX2_readDigit 25 = .ok (.iload_n 1, 1) := by decide +kernel
theorem dX2_readDigit_26 : decode cX2_readDigit 26 = .ok (.ireturn, 1) := by decide +kernel
theorem dX4_init_0 : decode cX4_init 0 = .ok (.aload_n 0, 1) := by decide +kernel
theorem dX4_init_1 : decode cX4_init 1 = .ok (.invokespecial 3, 3) := by decide +kernel
theorem dX4_init_4 : decode cX4_init 4 = .ok (.aload_n 0, 1) := by decide +kernel
theorem dX4_init_5 : decode cX4_init 5 = .ok (.bipush 26, 2) := by decide +kernel
theorem dX4_init_7 : decode cX4_init 7 = .ok (.newarray .int, 2) := by decide +kernel
theorem dX4_init_9 : decode cX4_init 9 = .ok (.putfield 9, 3) := by decide +kernel
theorem dX4_init_12 : decode cX4_init 12 = .ok (.aload_n 0, 1) := by decide +kernel
theorem dX4_init_13 : decode cX4_init 13 = .ok (.bipush 25, 2) := by decide +kernel
theorem dX4_init_15 : decode cX4_init 15 = .ok (.newarray .int, 2) := by decide +kernel
theorem dX4_init_17 : decode cX4_init 17 = .ok (.putfield 15, 3) := by decide +kernel
theorem dX4_init_20 : decode cX4_init 20 = .ok (.aload_n 0, 1) := by decide +kernel
theorem dX4_init_21 : decode cX4_init 21 = .ok (.iconst 3, 1) := by decide +kernel
theorem dX4_init_22 : decode cX4_init 22 = .ok (.putfield 18, 3) := by decide +kernel
theorem dX4_init_25 : decode cX4_init 25 = .ok (.iconst 0, 1) := by decide +kernel
theorem dX4_init_26 : decode cX4_init 26 = .ok (.istore_n 1, 1) := by decide +kernel
theorem dX4_init_27 : decode cX4_init 27 = .ok (.iload_n 1, 1) := by decide +kernel
theorem dX4_init_28 : decode cX4_init 28 = .ok (.bipush 25, 2) := by decide +kernel
theorem dX4_init_30 : decode cX4_init 30 = .ok (.if_icmp .ge 16, 3) := by decide +kernel
theorem dX4_init_33 : decode cX4_init 33 = .ok (.aload_n 0, 1) := by decide +kernel
theorem dX4_init_34 : decode cX4_init 34 = .ok (.getfield 15, 3) := by decide +kernel
theorem dX4_init_37 : decode cX4_init 37 = .ok (.iload_n 1, 1) := by decide +kernel
theorem dX4_init_38 : decode cX4_init 38 = .ok (.iconst (-1), 1) := by decide +kernel
theorem dX4_init_39 : decode cX4_init 39 = .ok (.iastore, 1) := by decide +kernel
theorem dX4_init_40 : decode cX4_init 40 = .ok (.iinc 1 1, 3) := by decide +kernel
theorem dX4_init_43 : decode cX4_init 43 = .ok (.goto (-16), 3) := by decide +kernel
theorem dX4_init_46 : decode cX4_init 46 = .ok (.return_, 1) := by decide +kernel
theorem dX4_copyFrom_0 : decode cX4_copyFrom 0 = .ok (.aload_n 1, 1) := by decide +kernel
theorem dX4_copyFrom_1 : decode cX4_copyFrom 1 = .ok (.getfield 9, 3) := by decide +kernel
theorem dX4_copyFrom_4 : decode cX4_copyFrom 4 = .ok (.iconst 0, 1) := by decide +kernel
theorem dX4_copyFrom_5 : decode cX4_copyFrom 5 = .ok (.aload_n 0, 1) := by decide +kernel
theorem dX4_copyFrom_6 : decode cX4_copyFrom 6 = .ok (.getfield 9, 3) := by decide +kernel
theorem dX4_copyFrom_9 : decode cX4_copyFrom 9 = .ok (.iconst 0, 1) := by decide +kernel
theorem dX4_copyFrom_10 : decode cX4_copyFrom 10 = .ok (.bipush 26, 2) := by decide +kernel
theorem dX4_copyFrom_12 : decode cX4_copyFrom 12 = .ok (.invokestatic 22, 3) := by decide +kernel
theorem dX4_copyFrom_15 : decode cX4_copyFrom 15 = .ok (.aload_n 1, 1) := by decide +kernel
theorem dX4_copyFrom_16 : decode cX4_copyFrom 16 = .ok (.getfield 15, 3) := by decide +kernel
theorem dX4_copyFrom_19 : decode cX4_copyFrom 19 = .ok (.iconst 0, 1) := by decide +kernel
theorem dX4_copyFrom_20 : decode cX4_copyFrom 20 = .ok (.aload_n 0, 1) := by decide +kernel
theorem dX4_copyFrom_21 : decode cX4_copyFrom 21 = .ok (.getfield 15, 3) := by decide +kernel
theorem dX4_copyFrom_24 : decode cX4_copyFrom 24 = .ok (.iconst 0, 1) := by decide +kernel
theorem dX4_copyFrom_25 : decode cX4_copyFrom 25 = .ok (.bipush 25, 2) := by decide +kernel
theorem dX4_copyFrom_27 : decode cX4_copyFrom 27 = .ok (.invokestatic 22, 3) := by decide +kernel
theorem dX4_copyFrom_30 : decode cX4_copyFrom 30 = .ok (.aload_n 0, 1) := by decide +kernel
theorem dX4_copyFrom_31 : decode cX4_copyFrom 31 = .ok (.aload_n 1, 1) := by decide +kernel
theorem dX4_copyFrom_32 : decode cX4_copyFrom 32 = .ok (.getfield 18, 3) := by decide +kernel
theorem dX4_copyFrom_35 : decode cX4_copyFrom 35 = .ok (.putfield 18, 3) := by decide +kernel
theorem dX4_copyFrom_38 : decode cX4_copyFrom 38 = .ok (.aload_n 0, 1) := by decide +kernel
theorem dX4_copyFrom_39 : decode cX4_copyFrom 39 = .ok (.aload_n 1, 1) := by decide +kernel
theorem dX4_copyFrom_40 : decode cX4_copyFrom 40 = .ok (.getfield 28, 3) := by decide +kernel
theorem dX4_copyFrom_43 : decode cX4_copyFrom 43 = .ok (.putfield 28, 3) := by decide +kernel
theorem dX4_copyFrom_46 : decode cX4_copyFrom 46 = .ok (.aload_n 0, 1) := by decide +kernel
theorem dX4_copyFrom_47 : decode cX4_copyFrom 47 = .ok (.aload_n 1, 1) := by decide +kernel
theorem dX4_copyFrom_48 : decode cX4_copyFrom 48 = .ok (.getfield 32, 3) := by decide +kernel
theorem dX4_copyFrom_51 : decode cX4_copyFrom 51 = .ok (.putfield 32, 3) := by decide +kernel
theorem dX4_copyFrom_54 : decode cX4_copyFrom 54 = .ok (.return_, 1) := by decide +kernel
theorem dX4_place_0 : decode cX4_place 0 = .ok (.aload_n 0, 1) := by decide +kernel
theorem dX4_place_1 : decode cX4_place 1 = .ok (.getfield 9, 3) := by decide +kernel
theorem dX4_place_4 : decode cX4_place 4 = .ok (.iload_n 1, 1) := by decide +kernel
theorem dX4_place_5 : decode cX4_place 5 = .ok (.dup2, 1) := by decide +kernel
theorem dX4_place_6 : decode cX4_place 6 = .ok (.iaload, 1) := by decide +kernel
theorem dX4_place_7 : decode cX4_place 7 = .ok (.iload_n 2, 1) := by decide +kernel
theorem dX4_place_8 : decode cX4_place 8 = .ok (.iadd, 1) := by decide +kernel
theorem dX4_place_9 : decode cX4_place 9 = .ok (.iastore, 1) := by decide +kernel
theorem dX4_place_10 : decode cX4_place 10 = .ok (.aload_n 0, 1) := by decide +kernel
theorem dX4_place_11 : decode cX4_place 11 = .ok (.getfield 15, 3) := by decide +kernel
theorem dX4_place_14 : decode cX4_place 14 = .ok (.iload_n 1, 1) := by decide +kernel
theorem dX4_place_15 : decode cX4_place 15 = .ok (.iload_n 3, 1) := by decide +kernel
theorem dX4_place_16 : decode cX4_place 16 = .ok (.iastore, 1) := by decide +kernel
theorem dX4_place_17 : decode cX4_place 17 = .ok (.return_, 1) := by decide +kernel
theorem dX4_removeStone_0 : decode cX4_removeStone 0 = .ok (.aload_n 0, 1) := by decide +kernel
theorem dX4_removeStone_1 : decode cX4_removeStone 1 = .ok (.getfield 9, 3) := by decide +kernel
theorem dX4_removeStone_4 : decode cX4_removeStone 4 = .ok (.iload_n 1, 1) := by decide +kernel
theorem dX4_removeStone_5 : decode cX4_removeStone 5 = .ok (.dup2, 1) := by decide +kernel
theorem dX4_removeStone_6 : decode cX4_removeStone 6 = .ok (.iaload, 1) := by decide +kernel
theorem dX4_removeStone_7 : decode cX4_removeStone 7 = .ok (.iconst 1, 1) := by decide +kernel
theorem dX4_removeStone_8 : decode cX4_removeStone 8 = .ok (.isub, 1) := by decide +kernel
theorem dX4_removeStone_9 : decode cX4_removeStone 9 = .ok (.iastore, 1) := by decide +kernel
theorem dX4_removeStone_10 : decode cX4_removeStone 10 = .ok (.aload_n 0, 1) := by decide +kernel
theorem dX4_removeStone_11 : decode cX4_removeStone 11 = .ok (.getfield 9, 3) := by decide +kernel
theorem dX4_removeStone_14 : decode cX4_removeStone 14 = .ok (.iload_n 1, 1) := by decide +kernel
theorem dX4_removeStone_15 : decode cX4_removeStone 15 = .ok (.iaload, 1) := by decide +kernel
theorem dX4_removeStone_16 : decode cX4_removeStone 16 = .ok (.ifCond .ne 10, 3) := by decide +kernel
theorem dX4_removeStone_19 : decode cX4_removeStone 19 = .ok (.aload_n 0, 1) := by decide +kernel
theorem dX4_removeStone_20 : decode cX4_removeStone 20 = .ok (.getfield 15, 3) := by decide +kernel
theorem dX4_removeStone_23 : decode cX4_removeStone 23 = .ok (.iload_n 1, 1) := by decide +kernel
theorem dX4_removeStone_24 : decode cX4_removeStone 24 = .ok (.iconst (-1), 1) := by decide +kernel
theorem dX4_removeStone_25 : decode cX4_removeStone 25 = .ok (.iastore, 1) := by decide +kernel
theorem dX4_removeStone_26 : decode cX4_removeStone 26 = .ok (.return_, 1) := by decide +kernel
theorem dX4_findLowestNeighbour_0 : decode cX4_findLowestNeighbour 0 = .ok (.getstatic 35, 3) := by decide +kernel
theorem dX4_findLowestNeighbour_3 : decode cX4_findLowestNeighbour 3 = .ok (.iload_n 1, 1) := by decide +kernel
theorem dX4_findLowestNeighbour_4 : decode cX4_findLowestNeighbour 4 = .ok (.iconst 4, 1) := by decide +kernel
theorem dX4_findLowestNeighbour_5 : decode cX4_findLowestNeighbour 5 = .ok (.imul, 1) := by decide +kernel
theorem dX4_findLowestNeighbour_6 : decode cX4_findLowestNeighbour 6 = .ok (.iaload, 1) := by decide +kernel
theorem dX4_findLowestNeighbour_7 : decode cX4_findLowestNeighbour 7 = .ok (.istore_n 2, 1) := by decide +kernel
theorem dX4_findLowestNeighbour_8 : decode cX4_findLowestNeighbour 8 = .ok (.iconst 1, 1) := by decide +kernel
theorem dX4_findLowestNeighbour_9 : decode cX4_findLowestNeighbour 9 = .ok (.istore_n 3, 1) := by decide +kernel
theorem dX4_findLowestNeighbour_10 : decode cX4_findLowestNeighbour 10 = .ok (.iload_n 3, 1) := by decide +kernel
theorem dX4_findLowestNeighbour_11 : decode cX4_findLowestNeighbour 11 = .ok (.iconst 4, 1) := by decide +kernel
theorem dX4_findLowestNeighbour_12 : decode cX4_findLowestNeighbour 12 = .ok (.if_icmp .ge 65, 3) := by decide +kernel
theorem dX4_findLowestNeighbour_15 : decode cX4_findLowestNeighbour 15 = .ok (.getstatic 35, 3) := by decide +kernel
theorem dX4_findLowestNeighbour_18 : decode cX4_findLowestNeighbour 18 = .ok (.iload_n 1, 1) := by decide +kernel
theorem dX4_findLowestNeighbour_19 : decode cX4_findLowestNeighbour 19 = .ok (.iconst 4, 1) := by decide +kernel
theorem dX4_findLowestNeighbour_20 : decode cX4_findLowestNeighbour 20 = .ok (.imul, 1) := by decide +kernel
theorem dX4_findLowestNeighbour_21 : decode cX4_findLowestNeighbour 21 = .ok (.iload_n 3, 1) := by decide +kernel
theorem dX4_findLowestNeighbour_22 : decode cX4_findLowestNeighbour 22 = .ok (.iadd, 1) := by decide +kernel
theorem dX4_findLowestNeighbour_23 : decode cX4_findLowestNeighbour 23 = .ok (.iaload, 1) := by decide +kernel
theorem dX4_findLowestNeighbour_24 : decode cX4_findLowestNeighbour 24 = .ok (.istore 4, 2) := by decide +kernel
theorem dX4_findLowestNeighbour_26 : decode cX4_findLowestNeighbour 26 = .ok (.iload 4, 2) := by decide +kernel
theorem dX4_findLowestNeighbour_28 : decode cX4_findLowestNeighbour 28 = .ok (.bipush 25, 2) := by decide +kernel
theorem dX4_findLowestNeighbour_30 : decode cX4_findLowestNeighbour 30 = .ok (.if_icmp .ne 10, 3) := by decide +kernel
theorem dX4_findLowestNeighbour_33 : decode cX4_findLowestNeighbour 33 = .ok (.aload_n 0, 1) := by decide +kernel
theorem dX4_findLowestNeighbour_34 : decode cX4_findLowestNeighbour 34 = .ok (.getfield 28, 3) := by decide +kernel
theorem dX4_findLowestNeighbour_37 : decode cX4_findLowestNeighbour 37 = .ok (.ifCond .eq 7, 3) := by decide +kernel
theorem dX4_findLowestNeighbour_40 : decode cX4_findLowestNeighbour 40 = .ok (.iconst 1, 1) := by decide +kernel
theorem dX4_findLowestNeighbour_41 : decode cX4_findLowestNeighbour 41 = .ok (.goto 4, 3) := by decide +kernel
theorem dX4_findLowestNeighbour_44 : decode cX4_findLowestNeighbour 44 = .ok (.iconst 0, 1) := by decide +kernel
theorem dX4_findLowestNeighbour_45 : decode cX4_findLowestNeighbour 45 = .ok (.istore 5, 2) := by decide +kernel
theorem dX4_findLowestNeighbour_47 : decode cX4_findLowestNeighbour 47 = .ok (.iload 5, 2) := by decide +kernel
theorem dX4_findLowestNeighbour_49 : decode cX4_findLowestNeighbour 49 = .ok (.ifCond .eq 22, 3) := by decide +kernel
theorem dX4_findLowestNeighbour_52 : decode cX4_findLowestNeighbour 52 = .ok (.aload_n 0, 1) := by decide +kernel
theorem dX4_findLowestNeighbour_53 : decode cX4_findLowestNeighbour 53 = .ok (.getfield 9, 3) := by decide +kernel
theorem dX4_findLowestNeighbour_56 : decode cX4_findLowestNeighbour 56 = .ok (.iload 4, 2) := by decide +kernel
theorem dX4_findLowestNeighbour_58 : decode cX4_findLowestNeighbour 58 = .ok (.iaload, 1) := by decide +kernel
theorem dX4_findLowestNeighbour_59 : decode cX4_findLowestNeighbour 59 = .ok (.aload_n 0, 1) := by decide +kernel
theorem dX4_findLowestNeighbour_60 : decode cX4_findLowestNeighbour 60 = .ok (.getfield 9, 3) := by decide +kernel
theorem dX4_findLowestNeighbour_63 : decode cX4_findLowestNeighbour 63 = .ok (.iload_n 2, 1) := by decide +kernel
theorem dX4_findLowestNeighbour_64 : decode cX4_findLowestNeighbour 64 = .ok (.iaload, 1) := by decide +kernel
theorem dX4_findLowestNeighbour_65 : decode cX4_findLowestNeighbour 65 = .ok (.if_icmp .ge 6, 3) := by decide +kernel
theorem dX4_findLowestNeighbour_68 : decode cX4_findLowestNeighbour 68 = .ok (.iload 4, 2) := by decide +kernel
theorem dX4_findLowestNeighbour_70 : decode cX4_findLowestNeighbour 70 = .ok (.istore_n 2, 1) := by decide +kernel
theorem dX4_findLowestNeighbour_71 : decode cX4_findLowestNeighbour 71 = .ok (.iinc 3 1, 3) := by decide +kernel
theorem dX4_findLowestNeighbour_74 : decode cX4_findLowestNeighbour 74 = .ok (.goto (-64), 3) := by decide +kernel
theorem dX4_findLowestNeighbour_77 : decode cX4_findLowestNeighbour 77 = .ok (.iload_n 2, 1) := by decide +kernel
theorem dX4_findLowestNeighbour_78 : decode cX4_findLowestNeighbour 78 = .ok (.ireturn, 1) := by decide +kernel
theorem dX4_steepnessOf_0 : decode cX4_steepnessOf 0 = .ok (.aload_n 0, 1) := by decide +kernel
theorem dX4_steepnessOf_1 : decode cX4_steepnessOf 1 = .ok (.getfield 9, 3) := by decide +kernel
theorem dX4_steepnessOf_4 : decode cX4_steepnessOf 4 = .ok (.iload_n 1, 1) := by decide +kernel
theorem dX4_steepnessOf_5 : decode cX4_steepnessOf 5 = .ok (.iaload, 1) := by decide +kernel
theorem dX4_steepnessOf_6 : decode cX4_steepnessOf 6 = .ok (.aload_n 0, 1) := by decide +kernel
theorem dX4_steepnessOf_7 : decode cX4_steepnessOf 7 = .ok (.getfield 9, 3) := by decide +kernel
theorem dX4_steepnessOf_10 : decode cX4_steepnessOf 10 = .ok (.aload_n 0, 1) := by decide +kernel
theorem dX4_steepnessOf_11 : decode cX4_steepnessOf 11 = .ok (.iload_n 1, 1) := by decide +kernel
theorem dX4_steepnessOf_12 : decode cX4_steepnessOf 12 = .ok (.invokevirtual 38, 3) := by decide +kernel
theorem dX4_steepnessOf_15 : decode cX4_steepnessOf 15 = .ok (.iaload, 1) := by decide +kernel
theorem dX4_steepnessOf_16 : decode cX4_steepnessOf 16 = .ok (.isub, 1) := by decide +kernel
theorem dX4_steepnessOf_17 : decode cX4_steepnessOf 17 = .ok (.ireturn, 1) := by decide +kernel
theorem dX4_findHighestUnstable_0 : decode cX4_findHighestUnstable 0 = .ok (.iconst (-1), 1) := by decide +kernel
theorem dX4_findHighestUnstable_1 : decode cX4_findHighestUnstable 1 = .ok (.istore_n 1, 1) := by decide +kernel
theorem dX4_findHighestUnstable_2 : decode cX4_findHighestUnstable 2 = .ok (.iconst 0, 1) := by decide +kernel
theorem dX4_findHighestUnstable_3 : decode cX4_findHighestUnstable 3 = .ok (.istore_n 2, 1) := by decide +kernel
theorem dX4_findHighestUnstable_4 : decode cX4_findHighestUnstable 4 = .ok (.iload_n 2, 1) := by decide +kernel
theorem dX4_findHighestUnstable_5 : decode cX4_findHighestUnstable 5 = .ok (.bipush 25, 2) := by decide +kernel
theorem dX4_findHighestUnstable_7 : decode cX4_findHighestUnstable 7 = .ok (.if_icmp .ge 53, 3) := by decide +kernel
theorem dX4_findHighestUnstable_10 : decode cX4_findHighestUnstable 10 = .ok (.iload_n 1, 1) := by decide +kernel
theorem dX4_findHighestUnstable_11 : decode cX4_findHighestUnstable 11 = .ok (.iconst (-1), 1) := by decide +kernel
theorem dX4_findHighestUnstable_12 : decode cX4_findHighestUnstable 12 = .ok (.if_icmp .eq 18, 3) := by decide +kernel
theorem dX4_findHighestUnstable_15 : decode cX4_findHighestUnstable 15 = .ok (.aload_n 0, 1) := by decide +kernel
theorem dX4_findHighestUnstable_16 : decode cX4_findHighestUnstable 16 = .ok (.getfield 9, 3) := by decide +kernel
theorem dX4_findHighestUnstable_19 : decode cX4_findHighestUnstable 19 = .ok (.iload_n 2, 1) := by decide +kernel
theorem dX4_findHighestUnstable_20 : decode cX4_findHighestUnstable 20 = .ok (.iaload, 1) := by decide +kernel
theorem dX4_findHighestUnstable_21 : decode cX4_findHighestUnstable 21 = .ok (.aload_n 0, 1) := by decide +kernel
theorem dX4_findHighestUnstable_22 : decode cX4_findHighestUnstable 22 = .ok (.getfield 9, 3) := by decide +kernel
theorem dX4_findHighestUnstable_25 : decode cX4_findHighestUnstable 25 = .ok (.iload_n 1, 1) := by decide +kernel
theorem dX4_findHighestUnstable_26 : decode cX4_findHighestUnstable 26 = .ok (.iaload, 1) := by decide +kernel
theorem dX4_findHighestUnstable_27 : decode cX4_findHighestUnstable 27 = .ok (.if_icmp .le 7, 3) := by decide +kernel
theorem dX4_findHighestUnstable_30 : decode cX4_findHighestUnstable 30 = .ok (.iconst 1, 1) := by decide +kernel
theorem dX4_findHighestUnstable_31 : decode cX4_findHighestUnstable 31 = .ok (.goto 4, 3) := by decide +kernel
theorem dX4_findHighestUnstable_34 : decode cX4_findHighestUnstable 34 = .ok (.iconst 0, 1) := by decide +kernel
theorem dX4_findHighestUnstable_35 : decode cX4_findHighestUnstable 35 = .ok (.istore_n 3, 1) := by decide +kernel
theorem dX4_findHighestUnstable_36 : decode cX4_findHighestUnstable 36 = .ok (.iload_n 3, 1) := by decide +kernel
theorem dX4_findHighestUnstable_37 : decode cX4_findHighestUnstable 37 = .ok (.ifCond .eq 17, 3) := by decide +kernel
theorem dX4_findHighestUnstable_40 : decode cX4_findHighestUnstable 40 = .ok (.aload_n 0, 1) := by decide +kernel
theorem dX4_findHighestUnstable_41 : decode cX4_findHighestUnstable 41 = .ok (.iload_n 2, 1) := by decide +kernel
theorem dX4_findHighestUnstable_42 : decode cX4_findHighestUnstable 42 = .ok (.invokevirtual 42, 3) := by decide +kernel
theorem dX4_findHighestUnstable_45 : decode cX4_findHighestUnstable 45 = .ok (.aload_n 0, 1) := by decide +kernel
theorem dX4_findHighestUnstable_46 : decode cX4_findHighestUnstable 46 = .ok (.getfield 18, 3) := by decide +kernel
theorem dX4_findHighestUnstable_49 : decode cX4_findHighestUnstable 49 = .ok (.if_icmp .lt 5, 3) := by decide +kernel
theorem dX4_findHighestUnstable_52 : decode cX4_findHighestUnstable 52 = .ok (.iload_n 2, 1) := by decide +kernel
theorem dX4_findHighestUnstable_53 : decode cX4_findHighestUnstable 53 = .ok (.istore_n 1, 1) := by decide +kernel
theorem dX4_findHighestUnstable_54 : decode cX4_findHighestUnstable 54 = .ok (.iinc 2 1, 3) := by decide +kernel
theorem dX4_findHighestUnstable_57 : decode cX4_findHighestUnstable 57 = .ok (.goto (-53), 3) := by decide +kernel
theorem dX4_findHighestUnstable_60 : decode cX4_findHighestUnstable 60 = .ok (.iload_n 1, 1) := by decide +kernel
theorem dX4_findHighestUnstable_61 : decode cX4_findHighestUnstable 61 = .ok (.ireturn, 1) := by decide +kernel
theorem dX4_topple_0 : decode cX4_topple 0 = .ok (.aload_n 0, 1) := by decide +kernel
theorem dX4_topple_1 : decode cX4_topple 1 = .ok (.iload_n 1, 1) := by decide +kernel
theorem dX4_topple_2 : decode cX4_topple 2 = .ok (.invokevirtual 38, 3) := by decide +kernel
theorem dX4_topple_5 : decode cX4_topple 5 = .ok (.istore_n 2, 1) := by decide +kernel
theorem dX4_topple_6 : decode cX4_topple 6 = .ok (.aload_n 0, 1) := by decide +kernel
theorem dX4_topple_7 : decode cX4_topple 7 = .ok (.getfield 15, 3) := by decide +kernel
theorem dX4_topple_10 : decode cX4_topple 10 = .ok (.iload_n 1, 1) := by decide +kernel
theorem dX4_topple_11 : decode cX4_topple 11 = .ok (.iaload, 1) := by decide +kernel
theorem dX4_topple_12 : decode cX4_topple 12 = .ok (.istore_n 3, 1) := by decide +kernel
theorem dX4_topple_13 : decode cX4_topple 13 = .ok (.aload_n 0, 1) := by decide +kernel
theorem dX4_topple_14 : decode cX4_topple 14 = .ok (.iload_n 1, 1) := by decide +kernel
theorem dX4_topple_15 : decode cX4_topple 15 = .ok (.invokevirtual 45, 3) := by decide +kernel
theorem dX4_topple_18 : decode cX4_topple 18 = .ok (.iload_n 2, 1) := by decide +kernel
theorem dX4_topple_19 : decode cX4_topple 19 = .ok (.bipush 25, 2) := by decide +kernel
theorem dX4_topple_21 : decode cX4_topple 21 = .ok (.if_icmp .ne 16, 3) := by decide +kernel
theorem dX4_topple_24 : decode cX4_topple 24 = .ok (.aload_n 0, 1) := by decide +kernel
theorem dX4_topple_25 : decode cX4_topple 25 = .ok (.dup, 1) := by decide +kernel
theorem dX4_topple_26 : decode cX4_topple 26 = .ok (.getfield 32, 3) := by decide +kernel
theorem dX4_topple_29 : decode cX4_topple 29 = .ok (.iconst 1, 1) := by decide +kernel
theorem dX4_topple_30 : decode cX4_topple 30 = .ok (.iadd, 1) := by decide +kernel
theorem dX4_topple_31 : decode cX4_topple 31 = .ok (.putfield 32, 3) := by decide +kernel
theorem dX4_topple_34 : decode cX4_topple 34 = .ok (.goto 10, 3) := by decide +kernel
theorem dX4_topple_37 : decode cX4_topple 37 = .ok (.aload_n 0, 1) := by decide +kernel
theorem dX4_topple_38 : decode cX4_topple 38 = .ok (.iload_n 2, 1) := by decide +kernel
theorem dX4_topple_39 : decode cX4_topple 39 = .ok (.iconst 1, 1) := by decide +kernel
theorem dX4_topple_40 : decode cX4_topple 40 = .ok (.iload_n 3, 1) := by decide +kernel
theorem dX4_topple_41 : decode cX4_topple 41 = .ok (.invokevirtual 49, 3) := by decide +kernel
theorem dX4_topple_44 : decode cX4_topple 44 = .ok (.iload_n 2, 1) := by decide +kernel
theorem dX4_topple_45 : decode cX4_topple 45 = .ok (.ireturn, 1) := by decide +kernel
theorem dX4_comeToRest_0 : decode cX4_comeToRest 0 = .ok (.iconst 0, 1) := by decide +kernel
theorem dX4_comeToRest_1 : decode cX4_comeToRest 1 = .ok (.istore_n 1, 1) := by decide +kernel
theorem dX4_comeToRest_2 : decode cX4_comeToRest 2 = .ok (.iload_n 1, 1) := by decide +kernel
theorem dX4_comeToRest_3 : decode cX4_comeToRest 3 = .ok (.ldc 53, 2) := by decide +kernel
theorem dX4_comeToRest_5 : decode cX4_comeToRest 5 = .ok (.if_icmp .ge 28, 3) := by decide +kernel
theorem dX4_comeToRest_8 : decode cX4_comeToRest 8 = .ok (.aload_n 0, 1) := by decide +kernel
theorem dX4_comeToRest_9 : decode cX4_comeToRest 9 = .ok (.invokevirtual 54, 3) := by decide +kernel
theorem dX4_comeToRest_12 : decode cX4_comeToRest 12 = .ok (.istore_n 2, 1) := by decide +kernel
theorem dX4_comeToRest_13 : decode cX4_comeToRest 13 = .ok (.iload_n 2, 1) := by decide +kernel
theorem dX4_comeToRest_14 : decode cX4_comeToRest 14 = .ok (.iconst (-1), 1) := by decide +kernel
theorem dX4_comeToRest_15 : decode cX4_comeToRest 15 = .ok (.if_icmp .ne 6, 3) := by decide +kernel
theorem dX4_comeToRest_18 : decode cX4_comeToRest 18 = .ok (.goto 15, 3) := by decide +kernel
theorem dX4_comeToRest_21 : decode cX4_comeToRest 21 = .ok (.aload_n 0, 1) := by decide +kernel
theorem dX4_comeToRest_22 : decode cX4_comeToRest 22 = .ok (.iload_n 2, 1) := by decide +kernel
theorem dX4_comeToRest_23 : decode cX4_comeToRest 23 = .ok (.invokevirtual 58, 3) := by decide +kernel
theorem dX4_comeToRest_26 : decode cX4_comeToRest 26 = .ok (.pop, 1) := by decide +kernel
theorem dX4_comeToRest_27 : decode cX4_comeToRest 27 = .ok (.iinc 1 1, 3) := by decide +kernel
theorem dX4_comeToRest_30 : decode cX4_comeToRest 30 = .ok (.goto (-28), 3) := by decide +kernel
theorem dX4_comeToRest_33 : decode cX4_comeToRest 33 = .ok (.iload_n 1, 1) := by decide +kernel
theorem dX4_comeToRest_34 : decode cX4_comeToRest 34 = .ok (.ireturn, 1) := by decide +kernel
theorem dX4_countByCells_0 : decode cX4_countByCells 0 = .ok (.iconst 0, 1) := by decide +kernel
theorem dX4_countByCells_1 : decode cX4_countByCells 1 = .ok (.istore_n 1, 1) := by decide +kernel
theorem dX4_countByCells_2 : decode cX4_countByCells 2 = .ok (.iconst 0, 1) := by decide +kernel
theorem dX4_countByCells_3 : decode cX4_countByCells 3 = .ok (.istore_n 2, 1) := by decide +kernel
theorem dX4_countByCells_4 : decode cX4_countByCells 4 = .ok (.iload_n 2, 1) := by decide +kernel
theorem dX4_countByCells_5 : decode cX4_countByCells 5 = .ok (.bipush 25, 2) := by decide +kernel
theorem dX4_countByCells_7 : decode cX4_countByCells 7 = .ok (.if_icmp .ge 18, 3) := by decide +kernel
theorem dX4_countByCells_10 : decode cX4_countByCells 10 = .ok (.iload_n 1, 1) := by decide +kernel
theorem dX4_countByCells_11 : decode cX4_countByCells 11 = .ok (.aload_n 0, 1) := by decide +kernel
theorem dX4_countByCells_12 : decode cX4_countByCells 12 = .ok (.getfield 9, 3) := by decide +kernel
theorem dX4_countByCells_15 : decode cX4_countByCells 15 = .ok (.iload_n 2, 1) := by decide +kernel
theorem dX4_countByCells_16 : decode cX4_countByCells 16 = .ok (.iaload, 1) := by decide +kernel
theorem dX4_countByCells_17 : decode cX4_countByCells 17 = .ok (.iadd, 1) := by decide +kernel
theorem dX4_countByCells_18 : decode cX4_countByCells 18 = .ok (.istore_n 1, 1) := by decide +kernel
theorem dX4_countByCells_19 : decode cX4_countByCells 19 = .ok (.iinc 2 1, 3) := by decide +kernel
theorem dX4_countByCells_22 : decode cX4_countByCells 22 = .ok (.goto (-18), 3) := by decide +kernel
theorem dX4_countByCells_25 : decode cX4_countByCells 25 = .ok (.iload_n 1, 1) := by decide +kernel
theorem dX4_countByCells_26 : decode cX4_countByCells 26 = .ok (.ireturn, 1) := by decide +kernel
theorem dX4_countByLevels_0 : decode cX4_countByLevels 0 = .ok (.iconst 0, 1) := by decide +kernel
theorem dX4_countByLevels_1 : decode cX4_countByLevels 1 = .ok (.istore_n 1, 1) := by decide +kernel
theorem dX4_countByLevels_2 : decode cX4_countByLevels 2 = .ok (.aload_n 0, 1) := by decide +kernel
theorem dX4_countByLevels_3 : decode cX4_countByLevels 3 = .ok (.getfield 9, 3) := by decide +kernel
theorem dX4_countByLevels_6 : decode cX4_countByLevels 6 = .ok (.aload_n 0, 1) := by decide +kernel
theorem dX4_countByLevels_7 : decode cX4_countByLevels 7 = .ok (.invokevirtual 61, 3) := by decide +kernel
theorem dX4_countByLevels_10 : decode cX4_countByLevels 10 = .ok (.iaload, 1) := by decide +kernel
theorem dX4_countByLevels_11 : decode cX4_countByLevels 11 = .ok (.istore_n 2, 1) := by decide +kernel
theorem dX4_countByLevels_12 : decode cX4_countByLevels 12 = .ok (.iconst 1, 1) := by decide +kernel
theorem dX4_countByLevels_13 : decode cX4_countByLevels 13 = .ok (.istore_n 3, 1) := by decide +kernel
theorem dX4_countByLevels_14 : decode cX4_countByLevels 14 = .ok (.iload_n 3, 1) := by decide +kernel
theorem dX4_countByLevels_15 : decode cX4_countByLevels 15 = .ok (.iload_n 2, 1) := by decide +kernel
theorem dX4_countByLevels_16 : decode cX4_countByLevels 16 = .ok (.if_icmp .gt 39, 3) := by decide +kernel
theorem dX4_countByLevels_19 : decode cX4_countByLevels 19 = .ok (.iconst 0, 1) := by decide +kernel
theorem dX4_countByLevels_20 : decode cX4_countByLevels 20 = .ok (.istore 4, 2) := by decide +kernel
theorem dX4_countByLevels_22 : decode cX4_countByLevels 22 = .ok (.iload 4, 2) := by decide +kernel
theorem dX4_countByLevels_24 : decode cX4_countByLevels 24 = .ok (.bipush 25, 2) := by decide +kernel
theorem dX4_countByLevels_26 : decode cX4_countByLevels 26 = .ok (.if_icmp .ge 23, 3) := by decide +kernel
theorem dX4_countByLevels_29 : decode cX4_countByLevels 29 = .ok (.aload_n 0, 1) := by decide +kernel
theorem dX4_countByLevels_30 : decode cX4_countByLevels 30 = .ok (.getfield 9, 3) := by decide +kernel
theorem dX4_countByLevels_33 : decode cX4_countByLevels 33 = .ok (.iload 4, 2) := by decide +kernel
theorem dX4_countByLevels_35 : decode cX4_countByLevels 35 = .ok (.iaload, 1) := by decide +kernel
theorem dX4_countByLevels_36 : decode cX4_countByLevels 36 = .ok (.iload_n 3, 1) := by decide +kernel
theorem dX4_countByLevels_37 : decode cX4_countByLevels 37 = .ok (.if_icmp .lt 6, 3) := by decide +kernel
theorem dX4_countByLevels_40 : decode cX4_countByLevels 40 = .ok (.iinc 1 1, 3) := by decide +kernel
theorem dX4_countByLevels_43 : decode cX4_countByLevels 43 = .ok (.iinc 4 1, 3) := by decide +kernel
theorem dX4_countByLevels_46 : decode cX4_countByLevels 46 = .ok (.goto (-24), 3) := by decide +kernel
theorem dX4_countByLevels_49 : decode cX4_countByLevels 49 = .ok (.iinc 3 1, 3) := by decide +kernel
theorem dX4_countByLevels_52 : decode cX4_countByLevels 52 = .ok (.goto (-38), 3) := by decide +kernel
theorem dX4_countByLevels_55 : decode cX4_countByLevels 55 = .ok (.iload_n 1, 1) := by decide +kernel
theorem dX4_countByLevels_56 : decode cX4_countByLevels 56 = .ok (.ireturn, 1) := by decide +kernel
theorem dX4_findHighest_0 : decode cX4_findHighest 0 = .ok (.iconst 0, 1) := by decide +kernel
theorem dX4_findHighest_1 : decode cX4_findHighest 1 = .ok (.istore_n 1, 1) := by decide +kernel
theorem dX4_findHighest_2 : decode cX4_findHighest 2 = .ok (.iconst 1, 1) := by decide +kernel
theorem dX4_findHighest_3 : decode cX4_findHighest 3 = .ok (.istore_n 2, 1) := by decide +kernel
theorem dX4_findHighest_4 : decode cX4_findHighest 4 = .ok (.iload_n 2, 1) := by decide +kernel
theorem dX4_findHighest_5 : decode cX4_findHighest 5 = .ok (.bipush 25, 2) := by decide +kernel
theorem dX4_findHighest_7 : decode cX4_findHighest 7 = .ok (.if_icmp .ge 26, 3) := by decide +kernel
theorem dX4_findHighest_10 : decode cX4_findHighest 10 = .ok (.aload_n 0, 1) := by decide +kernel
theorem dX4_findHighest_11 : decode cX4_findHighest 11 = .ok (.getfield 9, 3) := by decide +kernel
theorem dX4_findHighest_14 : decode cX4_findHighest 14 = .ok (.iload_n 2, 1) := by decide +kernel
theorem dX4_findHighest_15 : decode cX4_findHighest 15 = .ok (.iaload, 1) := by decide +kernel
theorem dX4_findHighest_16 : decode cX4_findHighest 16 = .ok (.aload_n 0, 1) := by decide +kernel
theorem dX4_findHighest_17 : decode cX4_findHighest 17 = .ok (.getfield 9, 3) := by decide +kernel
theorem dX4_findHighest_20 : decode cX4_findHighest 20 = .ok (.iload_n 1, 1) := by decide +kernel
theorem dX4_findHighest_21 : decode cX4_findHighest 21 = .ok (.iaload, 1) := by decide +kernel
theorem dX4_findHighest_22 : decode cX4_findHighest 22 = .ok (.if_icmp .le 5, 3) := by decide +kernel
theorem dX4_findHighest_25 : decode cX4_findHighest 25 = .ok (.iload_n 2, 1) := by decide +kernel
theorem dX4_findHighest_26 : decode cX4_findHighest 26 = .ok (.istore_n 1, 1) := by decide +kernel
theorem dX4_findHighest_27 : decode cX4_findHighest 27 = .ok (.iinc 2 1, 3) := by decide +kernel
theorem dX4_findHighest_30 : decode cX4_findHighest 30 = .ok (.goto (-26), 3) := by decide +kernel
theorem dX4_findHighest_33 : decode cX4_findHighest 33 = .ok (.iload_n 1, 1) := by decide +kernel
theorem dX4_findHighest_34 : decode cX4_findHighest 34 = .ok (.ireturn, 1) := by decide +kernel
theorem dX4_isSummit_0 : decode cX4_isSummit 0 = .ok (.aload_n 0, 1) := by decide +kernel
theorem dX4_isSummit_1 : decode cX4_isSummit 1 = .ok (.getfield 9, 3) := by decide +kernel
theorem dX4_isSummit_4 : decode cX4_isSummit 4 = .ok (.iload_n 1, 1) := by decide +kernel
theorem dX4_isSummit_5 : decode cX4_isSummit 5 = .ok (.iaload, 1) := by decide +kernel
theorem dX4_isSummit_6 : decode cX4_isSummit 6 = .ok (.ifCond .ne 5, 3) := by decide +kernel
theorem dX4_isSummit_9 : decode cX4_isSummit 9 = .ok (.iconst 0, 1) := by decide +kernel
theorem dX4_isSummit_10 : decode cX4_isSummit 10 = .ok (.ireturn, 1) := by decide +kernel
theorem dX4_isSummit_11 : decode cX4_isSummit 11 = .ok (.iconst 0, 1) := by decide +kernel
theorem dX4_isSummit_12 : decode cX4_isSummit 12 = .ok (.istore_n 2, 1) := by decide +kernel
theorem dX4_isSummit_13 : decode cX4_isSummit 13 = .ok (.iload_n 2, 1) := by decide +kernel
theorem dX4_isSummit_14 : decode cX4_isSummit 14 = .ok (.iconst 4, 1) := by decide +kernel
theorem dX4_isSummit_15 : decode cX4_isSummit 15 = .ok (.if_icmp .ge 34, 3) := by decide +kernel
theorem dX4_isSummit_18 : decode cX4_isSummit 18 = .ok (.aload_n 0, 1) := by decide +kernel
theorem dX4_isSummit_19 : decode cX4_isSummit 19 = .ok (.getfield 9, 3) := by decide +kernel
theorem dX4_isSummit_22 : decode cX4_isSummit 22 = .ok (.getstatic 35, 3) := by decide +kernel
theorem dX4_isSummit_25 : decode cX4_isSummit 25 = .ok (.iload_n 1, 1) := by decide +kernel
theorem dX4_isSummit_26 : decode cX4_isSummit 26 = .ok (.iconst 4, 1) := by decide +kernel
theorem dX4_isSummit_27 : decode cX4_isSummit 27 = .ok (.imul, 1) := by decide +kernel
theorem dX4_isSummit_28 : decode cX4_isSummit 28 = .ok (.iload_n 2, 1) := by decide +kernel
theorem dX4_isSummit_29 : decode cX4_isSummit 29 = .ok (.iadd, 1) := by decide +kernel
theorem dX4_isSummit_30 : decode cX4_isSummit 30 = .ok (.iaload, 1) := by decide +kernel
theorem dX4_isSummit_31 : decode cX4_isSummit 31 = .ok (.iaload, 1) := by decide +kernel
theorem dX4_isSummit_32 : decode cX4_isSummit 32 = .ok (.aload_n 0, 1) := by decide +kernel
theorem dX4_isSummit_33 : decode cX4_isSummit 33 = .ok (.getfield 9, 3) := by decide +kernel
theorem dX4_isSummit_36 : decode cX4_isSummit 36 = .ok (.iload_n 1, 1) := by decide +kernel
theorem dX4_isSummit_37 : decode cX4_isSummit 37 = .ok (.iaload, 1) := by decide +kernel
theorem dX4_isSummit_38 : decode cX4_isSummit 38 = .ok (.if_icmp .lt 5, 3) := by decide +kernel
theorem dX4_isSummit_41 : decode cX4_isSummit 41 = .ok (.iconst 0, 1) := by decide +kernel
theorem dX4_isSummit_42 : decode cX4_isSummit 42 = .ok (.ireturn, 1) := by decide +kernel
theorem dX4_isSummit_43 : decode cX4_isSummit 43 = .ok (.iinc 2 1, 3) := by decide +kernel
theorem dX4_isSummit_46 : decode cX4_isSummit 46 = .ok (.goto (-33), 3) := by decide +kernel
theorem dX4_isSummit_49 : decode cX4_isSummit 49 = .ok (.iconst 1, 1) := by decide +kernel
theorem dX4_isSummit_50 : decode cX4_isSummit 50 = .ok (.ireturn, 1) := by decide +kernel
theorem dX4_countPeaks_0 : decode cX4_countPeaks 0 = .ok (.iconst 0, 1) := by decide +kernel
theorem dX4_countPeaks_1 : decode cX4_countPeaks 1 = .ok (.istore_n 1, 1) := by decide +kernel
theorem dX4_countPeaks_2 : decode cX4_countPeaks 2 = .ok (.iconst 0, 1) := by decide +kernel
theorem dX4_countPeaks_3 : decode cX4_countPeaks 3 = .ok (.istore_n 2, 1) := by decide +kernel
theorem dX4_countPeaks_4 : decode cX4_countPeaks 4 = .ok (.iload_n 2, 1) := by decide +kernel
theorem dX4_countPeaks_5 : decode cX4_countPeaks 5 = .ok (.bipush 25, 2) := by decide +kernel
theorem dX4_countPeaks_7 : decode cX4_countPeaks 7 = .ok (.if_icmp .ge 20, 3) := by decide +kernel
theorem dX4_countPeaks_10 : decode cX4_countPeaks 10 = .ok (.aload_n 0, 1) := by decide +kernel
theorem dX4_countPeaks_11 : decode cX4_countPeaks 11 = .ok (.iload_n 2, 1) := by decide +kernel
theorem dX4_countPeaks_12 : decode cX4_countPeaks 12 = .ok (.invokevirtual 64, 3) := by decide +kernel
theorem dX4_countPeaks_15 : decode cX4_countPeaks 15 = .ok (.ifCond .eq 6, 3) := by decide +kernel
theorem dX4_countPeaks_18 : decode cX4_countPeaks 18 = .ok (.iinc 1 1, 3) := by decide +kernel
theorem dX4_countPeaks_21 : decode cX4_countPeaks 21 = .ok (.iinc 2 1, 3) := by decide +kernel
theorem dX4_countPeaks_24 : decode cX4_countPeaks 24 = .ok (.goto (-20), 3) := by decide +kernel
theorem dX4_countPeaks_27 : decode cX4_countPeaks 27 = .ok (.iload_n 1, 1) := by decide +kernel
theorem dX4_countPeaks_28 : decode cX4_countPeaks 28 = .ok (.ireturn, 1) := by decide +kernel
theorem dX4_countPeaksAhead_0 : decode cX4_countPeaksAhead 0 = .ok (.iconst 0, 1) := by decide +kernel
theorem dX4_countPeaksAhead_1 : decode cX4_countPeaksAhead 1 = .ok (.istore_n 2, 1) := by decide +kernel
theorem dX4_countPeaksAhead_2 : decode cX4_countPeaksAhead 2 = .ok (.iconst 0, 1) := by decide +kernel
theorem dX4_countPeaksAhead_3 : decode cX4_countPeaksAhead 3 = .ok (.istore_n 3, 1) := by decide +kernel
theorem dX4_countPeaksAhead_4 : decode cX4_countPeaksAhead 4 = .ok (.iload_n 3, 1) := by decide +kernel
theorem dX4_countPeaksAhead_5 : decode cX4_countPeaksAhead 5 = .ok (.bipush 25, 2) := by decide +kernel
theorem dX4_countPeaksAhead_7 : decode cX4_countPeaksAhead 7 = .ok (.if_icmp .ge 67, 3) := by decide +kernel
theorem dX4_countPeaksAhead_10 : decode cX4_countPeaksAhead 10 = .ok (.aload_n 0, 1) := by decide +kernel
theorem dX4_countPeaksAhead_11 : decode cX4_countPeaksAhead 11 = .ok (.getfield 9, 3) := by decide +kernel
theorem dX4_countPeaksAhead_14 : decode cX4_countPeaksAhead 14 = .ok (.iload_n 3, 1) := by decide +kernel
theorem dX4_countPeaksAhead_15 : decode cX4_countPeaksAhead 15 = .ok (.iaload, 1) := by decide +kernel
theorem dX4_countPeaksAhead_16 : decode cX4_countPeaksAhead 16 = .ok (.aload_n 0, 1) := by decide +kernel
theorem dX4_countPeaksAhead_17 : decode cX4_countPeaksAhead 17 = .ok (.getfield 9, 3) := by decide +kernel
theorem dX4_countPeaksAhead_20 : decode cX4_countPeaksAhead 20 = .ok (.iload_n 1, 1) := by decide +kernel
theorem dX4_countPeaksAhead_21 : decode cX4_countPeaksAhead 21 = .ok (.iaload, 1) := by decide +kernel
theorem dX4_countPeaksAhead_22 : decode cX4_countPeaksAhead 22 = .ok (.if_icmp .gt 23, 3) := by decide +kernel
theorem dX4_countPeaksAhead_25 : decode cX4_countPeaksAhead 25 = .ok (.aload_n 0, 1) := by decide +kernel
theorem dX4_countPeaksAhead_26 : decode cX4_countPeaksAhead 26 = .ok (.getfield 9, 3) := by decide +kernel
theorem dX4_countPeaksAhead_29 : decode cX4_countPeaksAhead 29 = .ok (.iload_n 3, 1) := by decide +kernel
theorem dX4_countPeaksAhead_30 : decode cX4_countPeaksAhead 30 = .ok (.iaload, 1) := by decide +kernel
theorem dX4_countPeaksAhead_31 : decode cX4_countPeaksAhead 31 = .ok (.aload_n 0, 1) := by decide +kernel
theorem dX4_countPeaksAhead_32 : decode cX4_countPeaksAhead 32 = .ok (.getfield 9, 3) := by decide +kernel
theorem dX4_countPeaksAhead_35 : decode cX4_countPeaksAhead 35 = .ok (.iload_n 1, 1) := by decide +kernel
theorem dX4_countPeaksAhead_36 : decode cX4_countPeaksAhead 36 = .ok (.iaload, 1) := by decide +kernel
theorem dX4_countPeaksAhead_37 : decode cX4_countPeaksAhead 37 = .ok (.if_icmp .ne 12, 3) := by decide +kernel
theorem dX4_countPeaksAhead_40 : decode cX4_countPeaksAhead 40 = .ok (.iload_n 3, 1) := by decide +kernel
theorem dX4_countPeaksAhead_41 : decode cX4_countPeaksAhead 41 = .ok (.iload_n 1, 1) := by decide +kernel
theorem dX4_countPeaksAhead_42 : decode cX4_countPeaksAhead 42 = .ok (.if_icmp .ge 7, 3) := by decide +kernel
theorem dX4_countPeaksAhead_45 : decode cX4_countPeaksAhead 45 = .ok (.iconst 1, 1) := by decide +kernel
theorem dX4_countPeaksAhead_46 : decode cX4_countPeaksAhead 46 = .ok (.goto 4, 3) := by decide +kernel
theorem dX4_countPeaksAhead_49 : decode cX4_countPeaksAhead 49 = .ok (.iconst 0, 1) := by decide +kernel
theorem dX4_countPeaksAhead_50 : decode cX4_countPeaksAhead 50 = .ok (.istore 4, 2) := by decide +kernel
theorem dX4_countPeaksAhead_52 : decode cX4_countPeaksAhead 52 = .ok (.iload 4, 2) := by decide +kernel
theorem dX4_countPeaksAhead_54 : decode cX4_countPeaksAhead 54 = .ok (.ifCond .eq 14, 3) := by decide +kernel
theorem dX4_countPeaksAhead_57 : decode cX4_countPeaksAhead 57 = .ok (.aload_n 0, 1) := by decide +kernel
theorem dX4_countPeaksAhead_58 : decode cX4_countPeaksAhead 58 = .ok (.iload_n 3, 1) := by decide +kernel
theorem dX4_countPeaksAhead_59 : decode cX4_countPeaksAhead 59 = .ok (.invokevirtual 64, 3) := by decide +kernel
theorem dX4_countPeaksAhead_62 : decode cX4_countPeaksAhead 62 = .ok (.ifCond .eq 6, 3) := by decide +kernel
theorem dX4_countPeaksAhead_65 : decode cX4_countPeaksAhead 65 = .ok (.iinc 2 1, 3) := by decide +kernel
theorem dX4_countPeaksAhead_68 : decode cX4_countPeaksAhead 68 = .ok (.iinc 3 1, 3) := by decide +kernel
theorem dX4_countPeaksAhead_71 : decode cX4_countPeaksAhead 71 = .ok (.goto (-67), 3) := by decide +kernel
theorem dX4_countPeaksAhead_74 : decode cX4_countPeaksAhead 74 = .ok (.iload_n 2, 1) := by decide +kernel
theorem dX4_countPeaksAhead_75 : decode cX4_countPeaksAhead 75 = .ok (.ireturn, 1) := by decide +kernel
theorem dX4_countPeaksOf_0 : decode cX4_countPeaksOf 0 = .ok (.iconst 0, 1) := by decide +kernel
theorem dX4_countPeaksOf_1 : decode cX4_countPeaksOf 1 = .ok (.istore_n 2, 1) := by decide +kernel
theorem dX4_countPeaksOf_2 : decode cX4_countPeaksOf 2 = .ok (.iconst 0, 1) := by decide +kernel
theorem dX4_countPeaksOf_3 : decode cX4_countPeaksOf 3 = .ok (.istore_n 3, 1) := by decide +kernel
theorem dX4_countPeaksOf_4 : decode cX4_countPeaksOf 4 = .ok (.iload_n 3, 1) := by decide +kernel
theorem dX4_countPeaksOf_5 : decode cX4_countPeaksOf 5 = .ok (.bipush 25, 2) := by decide +kernel
theorem dX4_countPeaksOf_7 : decode cX4_countPeaksOf 7 = .ok (.if_icmp .ge 30, 3) := by decide +kernel
theorem dX4_countPeaksOf_10 : decode cX4_countPeaksOf 10 = .ok (.aload_n 0, 1) := by decide +kernel
theorem dX4_countPeaksOf_11 : decode cX4_countPeaksOf 11 = .ok (.getfield 15, 3) := by decide +kernel
theorem dX4_countPeaksOf_14 : decode cX4_countPeaksOf 14 = .ok (.iload_n 3, 1) := by decide +kernel
theorem dX4_countPeaksOf_15 : decode cX4_countPeaksOf 15 = .ok (.iaload, 1) := by decide +kernel
theorem dX4_countPeaksOf_16 : decode cX4_countPeaksOf 16 = .ok (.iload_n 1, 1) := by decide +kernel
theorem dX4_countPeaksOf_17 : decode cX4_countPeaksOf 17 = .ok (.if_icmp .ne 14, 3) := by decide +kernel
theorem dX4_countPeaksOf_20 : decode cX4_countPeaksOf 20 = .ok (.aload_n 0, 1) := by decide +kernel
theorem dX4_countPeaksOf_21 : decode cX4_countPeaksOf 21 = .ok (.iload_n 3, 1) := by decide +kernel
theorem dX4_countPeaksOf_22 : decode cX4_countPeaksOf 22 = .ok (.invokevirtual 64, 3) := by decide +kernel
theorem dX4_countPeaksOf_25 : decode cX4_countPeaksOf 25 = .ok (.ifCond .eq 6, 3) := by decide +kernel
theorem dX4_countPeaksOf_28 : decode cX4_countPeaksOf 28 = .ok (.iinc 2 1, 3) := by decide +kernel
theorem dX4_countPeaksOf_31 : decode cX4_countPeaksOf 31 = .ok (.iinc 3 1, 3) := by decide +kernel
theorem dX4_countPeaksOf_34 : decode cX4_countPeaksOf 34 = .ok (.goto (-30), 3) := by decide +kernel
theorem dX4_countPeaksOf_37 : decode cX4_countPeaksOf 37 = .ok (.iload_n 2, 1) := by decide +kernel
theorem dX4_countPeaksOf_38 : decode cX4_countPeaksOf 38 = .ok (.ireturn, 1) := by decide +kernel
theorem dX4_sumPeaksOf_0 : decode cX4_sumPeaksOf 0 = .ok (.iconst 0, 1) := by decide +kernel
theorem dX4_sumPeaksOf_1 : decode cX4_sumPeaksOf 1 = .ok (.istore_n 2, 1) := by decide +kernel
theorem dX4_sumPeaksOf_2 : decode cX4_sumPeaksOf 2 = .ok (.iconst 0, 1) := by decide +kernel
theorem dX4_sumPeaksOf_3 : decode cX4_sumPeaksOf 3 = .ok (.istore_n 3, 1) := by decide +kernel
theorem dX4_sumPeaksOf_4 : decode cX4_sumPeaksOf 4 = .ok (.iload_n 3, 1) := by decide +kernel
theorem dX4_sumPeaksOf_5 : decode cX4_sumPeaksOf 5 = .ok (.bipush 25, 2) := by decide +kernel
theorem dX4_sumPeaksOf_7 : decode cX4_sumPeaksOf 7 = .ok (.if_icmp .ge 36, 3) := by decide +kernel
theorem dX4_sumPeaksOf_10 : decode cX4_sumPeaksOf 10 = .ok (.aload_n 0, 1) := by decide +kernel
theorem dX4_sumPeaksOf_11 : decode cX4_sumPeaksOf 11 = .ok (.getfield 15, 3) := by decide +kernel
theorem dX4_sumPeaksOf_14 : decode cX4_sumPeaksOf 14 = .ok (.iload_n 3, 1) := by decide +kernel
theorem dX4_sumPeaksOf_15 : decode cX4_sumPeaksOf 15 = .ok (.iaload, 1) := by decide +kernel
theorem dX4_sumPeaksOf_16 : decode cX4_sumPeaksOf 16 = .ok (.iload_n 1, 1) := by decide +kernel
theorem dX4_sumPeaksOf_17 : decode cX4_sumPeaksOf 17 = .ok (.if_icmp .ne 20, 3) := by decide +kernel
theorem dX4_sumPeaksOf_20 : decode cX4_sumPeaksOf 20 = .ok (.aload_n 0, 1) := by decide +kernel
theorem dX4_sumPeaksOf_21 : decode cX4_sumPeaksOf 21 = .ok (.iload_n 3, 1) := by decide +kernel
theorem dX4_sumPeaksOf_22 : decode cX4_sumPeaksOf 22 = .ok (.invokevirtual 64, 3) := by decide +kernel
theorem dX4_sumPeaksOf_25 : decode cX4_sumPeaksOf 25 = .ok (.ifCond .eq 12, 3) := by decide +kernel
theorem dX4_sumPeaksOf_28 : decode cX4_sumPeaksOf 28 = .ok (.iload_n 2, 1) := by decide +kernel
theorem dX4_sumPeaksOf_29 : decode cX4_sumPeaksOf 29 = .ok (.aload_n 0, 1) := by decide +kernel
theorem dX4_sumPeaksOf_30 : decode cX4_sumPeaksOf 30 = .ok (.getfield 9, 3) := by decide +kernel
theorem dX4_sumPeaksOf_33 : decode cX4_sumPeaksOf 33 = .ok (.iload_n 3, 1) := by decide +kernel
theorem dX4_sumPeaksOf_34 : decode cX4_sumPeaksOf 34 = .ok (.iaload, 1) := by decide +kernel
theorem dX4_sumPeaksOf_35 : decode cX4_sumPeaksOf 35 = .ok (.iadd, 1) := by decide +kernel
theorem dX4_sumPeaksOf_36 : decode cX4_sumPeaksOf 36 = .ok (.istore_n 2, 1) := by decide +kernel
theorem dX4_sumPeaksOf_37 : decode cX4_sumPeaksOf 37 = .ok (.iinc 3 1, 3) := by decide +kernel
theorem dX4_sumPeaksOf_40 : decode cX4_sumPeaksOf 40 = .ok (.goto (-36), 3) := by decide +kernel
theorem dX4_sumPeaksOf_43 : decode cX4_sumPeaksOf 43 = .ok (.iload_n 2, 1) := by decide +kernel
theorem dX4_sumPeaksOf_44 : decode cX4_sumPeaksOf 44 = .ok (.ireturn, 1) := by decide +kernel
theorem dX6_init_0 : decode cX6_init 0 = .ok (.aload_n 0, 1) := by decide +kernel
theorem dX6_init_1 : decode cX6_init 1 = .ok (.invokespecial 3, 3) := by decide +kernel
theorem dX6_init_4 : decode cX6_init 4 = .ok (.aload_n 0, 1) := by decide +kernel
theorem dX6_init_5 : decode cX6_init 5 = .ok (.new 9, 3) := by decide +kernel
theorem dX6_init_8 : decode cX6_init 8 = .ok (.dup, 1) := by decide +kernel
theorem dX6_init_9 : decode cX6_init 9 = .ok (.invokespecial 11, 3) := by decide +kernel
theorem dX6_init_12 : decode cX6_init 12 = .ok (.putfield 12, 3) := by decide +kernel
theorem dX6_init_15 : decode cX6_init 15 = .ok (.aload_n 0, 1) := by decide +kernel
theorem dX6_init_16 : decode cX6_init 16 = .ok (.iconst 4, 1) := by decide +kernel
theorem dX6_init_17 : decode cX6_init 17 = .ok (.newarray .int, 2) := by decide +kernel
theorem dX6_init_19 : decode cX6_init 19 = .ok (.putfield 18, 3) := by decide +kernel
theorem dX6_init_22 : decode cX6_init 22 = .ok (.aload_n 0, 1) := by decide +kernel
theorem dX6_init_23 : decode cX6_init 23 = .ok (.iconst 4, 1) := by decide +kernel
theorem dX6_init_24 : decode cX6_init 24 = .ok (.newarray .int, 2) := by decide +kernel
theorem dX6_init_26 : decode cX6_init 26 = .ok (.putfield 22, 3) := by decide +kernel
theorem dX6_init_29 : decode cX6_init 29 = .ok (.return_, 1) := by decide +kernel
theorem dX6_copyFrom_0 : decode cX6_copyFrom 0 = .ok (.aload_n 0, 1) := by decide +kernel
theorem dX6_copyFrom_1 : decode cX6_copyFrom 1 = .ok (.getfield 12, 3) := by decide +kernel
theorem dX6_copyFrom_4 : decode cX6_copyFrom 4 = .ok (.aload_n 1, 1) := by decide +kernel
theorem dX6_copyFrom_5 : decode cX6_copyFrom 5 = .ok (.getfield 12, 3) := by decide +kernel
theorem dX6_copyFrom_8 : decode cX6_copyFrom 8 = .ok (.invokevirtual 25, 3) := by decide +kernel
theorem dX6_copyFrom_11 : decode cX6_copyFrom 11 = .ok (.aload_n 1, 1) := by decide +kernel
theorem dX6_copyFrom_12 : decode cX6_copyFrom 12 = .ok (.getfield 18, 3) := by decide +kernel
theorem dX6_copyFrom_15 : decode cX6_copyFrom 15 = .ok (.iconst 0, 1) := by decide +kernel
theorem dX6_copyFrom_16 : decode cX6_copyFrom 16 = .ok (.aload_n 0, 1) := by decide +kernel
theorem dX6_copyFrom_17 : decode cX6_copyFrom 17 = .ok (.getfield 18, 3) := by decide +kernel
theorem dX6_copyFrom_20 : decode cX6_copyFrom 20 = .ok (.iconst 0, 1) := by decide +kernel
theorem dX6_copyFrom_21 : decode cX6_copyFrom 21 = .ok (.iconst 4, 1) := by decide +kernel
theorem dX6_copyFrom_22 : decode cX6_copyFrom 22 = .ok (.invokestatic 29, 3) := by decide +kernel
theorem dX6_copyFrom_25 : decode cX6_copyFrom 25 = .ok (.aload_n 1, 1) := by decide +kernel
theorem dX6_copyFrom_26 : decode cX6_copyFrom 26 = .ok (.getfield 22, 3) := by decide +kernel
theorem dX6_copyFrom_29 : decode cX6_copyFrom 29 = .ok (.iconst 0, 1) := by decide +kernel
theorem dX6_copyFrom_30 : decode cX6_copyFrom 30 = .ok (.aload_n 0, 1) := by decide +kernel
theorem dX6_copyFrom_31 : decode cX6_copyFrom 31 = .ok (.getfield 22, 3) := by decide +kernel
theorem dX6_copyFrom_34 : decode cX6_copyFrom 34 = .ok (.iconst 0, 1) := by decide +kernel
theorem dX6_copyFrom_35 : decode cX6_copyFrom 35 = .ok (.iconst 4, 1) := by decide +kernel
theorem dX6_copyFrom_36 : decode cX6_copyFrom 36 = .ok (.invokestatic 29, 3) := by decide +kernel
theorem dX6_copyFrom_39 : decode cX6_copyFrom 39 = .ok (.aload_n 0, 1) := by decide +kernel
theorem dX6_copyFrom_40 : decode cX6_copyFrom 40 = .ok (.aload_n 1, 1) := by decide +kernel
theorem dX6_copyFrom_41 : decode cX6_copyFrom 41 = .ok (.getfield 35, 3) := by decide +kernel
theorem dX6_copyFrom_44 : decode cX6_copyFrom 44 = .ok (.putfield 35, 3) := by decide +kernel
theorem dX6_copyFrom_47 : decode cX6_copyFrom 47 = .ok (.aload_n 0, 1) := by decide +kernel
theorem dX6_copyFrom_48 : decode cX6_copyFrom 48 = .ok (.aload_n 1, 1) := by decide +kernel
theorem dX6_copyFrom_49 : decode cX6_copyFrom 49 = .ok (.getfield 39, 3) := by decide +kernel
theorem dX6_copyFrom_52 : decode cX6_copyFrom 52 = .ok (.putfield 39, 3) := by decide +kernel
theorem dX6_copyFrom_55 : decode cX6_copyFrom 55 = .ok (.aload_n 0, 1) := by decide +kernel
theorem dX6_copyFrom_56 : decode cX6_copyFrom 56 = .ok (.aload_n 1, 1) := by decide +kernel
theorem dX6_copyFrom_57 : decode cX6_copyFrom 57 = .ok (.getfield 42, 3) := by decide +kernel
theorem dX6_copyFrom_60 : decode cX6_copyFrom 60 = .ok (.putfield 42, 3) := by decide +kernel
theorem dX6_copyFrom_63 : decode cX6_copyFrom 63 = .ok (.aload_n 0, 1) := by decide +kernel
theorem dX6_copyFrom_64 : decode cX6_copyFrom 64 = .ok (.aload_n 1, 1) := by decide +kernel
theorem dX6_copyFrom_65 : decode cX6_copyFrom 65 = .ok (.getfield 45, 3) := by decide +kernel
theorem dX6_copyFrom_68 : decode cX6_copyFrom 68 = .ok (.putfield 45, 3) := by decide +kernel
theorem dX6_copyFrom_71 : decode cX6_copyFrom 71 = .ok (.aload_n 0, 1) := by decide +kernel
theorem dX6_copyFrom_72 : decode cX6_copyFrom 72 = .ok (.aload_n 1, 1) := by decide +kernel
theorem dX6_copyFrom_73 : decode cX6_copyFrom 73 = .ok (.getfield 48, 3) := by decide +kernel
theorem dX6_copyFrom_76 : decode cX6_copyFrom 76 = .ok (.putfield 48, 3) := by decide +kernel
theorem dX6_copyFrom_79 : decode cX6_copyFrom 79 = .ok (.aload_n 0, 1) := by decide +kernel
theorem dX6_copyFrom_80 : decode cX6_copyFrom 80 = .ok (.aload_n 1, 1) := by decide +kernel
theorem dX6_copyFrom_81 : decode cX6_copyFrom 81 = .ok (.getfield 51, 3) := by decide +kernel
theorem dX6_copyFrom_84 : decode cX6_copyFrom 84 = .ok (.putfield 51, 3) := by decide +kernel
theorem dX6_copyFrom_87 : decode cX6_copyFrom 87 = .ok (.return_, 1) := by decide +kernel
theorem dX6_hasPlayer_0 : decode cX6_hasPlayer 0 = .ok (.iload_n 1, 1) := by decide +kernel
theorem dX6_hasPlayer_1 : decode cX6_hasPlayer 1 = .ok (.ifCond .lt 15, 3) := by decide +kernel
theorem dX6_hasPlayer_4 : decode cX6_hasPlayer 4 = .ok (.iload_n 1, 1) := by decide +kernel
theorem dX6_hasPlayer_5 : decode cX6_hasPlayer 5 = .ok (.aload_n 0, 1) := by decide +kernel
theorem dX6_hasPlayer_6 : decode cX6_hasPlayer 6 = .ok (.getfield 35, 3) := by decide +kernel
theorem dX6_hasPlayer_9 : decode cX6_hasPlayer 9 = .ok (.if_icmp .ge 7, 3) := by decide +kernel
theorem dX6_hasPlayer_12 : decode cX6_hasPlayer 12 = .ok (.iconst 1, 1) := by decide +kernel
theorem dX6_hasPlayer_13 : decode cX6_hasPlayer 13 = .ok (.goto 4, 3) := by decide +kernel
theorem dX6_hasPlayer_16 : decode cX6_hasPlayer 16 = .ok (.iconst 0, 1) := by decide +kernel
theorem dX6_hasPlayer_17 : decode cX6_hasPlayer 17 = .ok (.ireturn, 1) := by decide +kernel
theorem dX6_faultOfEntry_0 : decode cX6_faultOfEntry 0 = .ok (.iload_n 1, 1) := by decide +kernel
theorem dX6_faultOfEntry_1 : decode cX6_faultOfEntry 1 = .ok (.iconst 1, 1) := by decide +kernel
theorem dX6_faultOfEntry_2 : decode cX6_faultOfEntry 2 = .ok (.if_icmp .lt 9, 3) := by decide +kernel
theorem dX6_faultOfEntry_5 : decode cX6_faultOfEntry 5 = .ok (.iload_n 1, 1) := by decide +kernel
theorem dX6_faultOfEntry_6 : decode cX6_faultOfEntry 6 = .ok (.bipush 60, 2) := by decide +kernel
theorem dX6_faultOfEntry_8 : decode cX6_faultOfEntry 8 = .ok (.if_icmp .le 7, 3) := by decide +kernel
theorem dX6_faultOfEntry_11 : decode cX6_faultOfEntry 11 = .ok (.getstatic 54, 3) := by decide +kernel
theorem dX6_faultOfEntry_14 : decode cX6_faultOfEntry 14 = .ok (.areturn, 1) := by decide +kernel
theorem dX6_faultOfEntry_15 : decode cX6_faultOfEntry 15 = .ok (.aload_n 0, 1) := by decide +kernel
theorem dX6_faultOfEntry_16 : decode cX6_faultOfEntry 16 = .ok (.getfield 35, 3) := by decide +kernel
theorem dX6_faultOfEntry_19 : decode cX6_faultOfEntry 19 = .ok (.iconst 4, 1) := by decide +kernel
theorem dX6_faultOfEntry_20 : decode cX6_faultOfEntry 20 = .ok (.if_icmp .lt 9, 3) := by decide +kernel
theorem dX6_faultOfEntry_23 : decode cX6_faultOfEntry 23 = .ok (.getstatic 60, 3) := by decide +kernel
theorem dX6_faultOfEntry_26 : decode cX6_faultOfEntry 26 = .ok (.goto 6, 3) := by decide +kernel
theorem dX6_faultOfEntry_29 : decode cX6_faultOfEntry 29 = .ok (.getstatic 63, 3) := by decide +kernel
theorem dX6_faultOfEntry_32 : decode cX6_faultOfEntry 32 = .ok (.areturn, 1) := by decide +kernel
theorem dX6_enterPlayer_0 : decode cX6_enterPlayer 0 = .ok (.aload_n 0, 1) := by decide +kernel
theorem dX6_enterPlayer_1 : decode cX6_enterPlayer 1 = .ok (.getfield 35, 3) := by decide +kernel
theorem dX6_enterPlayer_4 : decode cX6_enterPlayer 4 = .ok (.istore_n 2, 1) := by decide +kernel
theorem dX6_enterPlayer_5 : decode cX6_enterPlayer 5 = .ok (.aload_n 0, 1) := by decide +kernel
theorem dX6_enterPlayer_6 : decode cX6_enterPlayer 6 = .ok (.getfield 18, 3) := by decide +kernel
theorem dX6_enterPlayer_9 : decode cX6_enterPlayer 9 = .ok (.iload_n 2, 1) := by decide +kernel
theorem dX6_enterPlayer_10 : decode cX6_enterPlayer 10 = .ok (.iload_n 1, 1) := by decide +kernel
theorem dX6_enterPlayer_11 : decode cX6_enterPlayer 11 = .ok (.iastore, 1) := by decide +kernel
theorem dX6_enterPlayer_12 : decode cX6_enterPlayer 12 = .ok (.aload_n 0, 1) := by decide +kernel
theorem dX6_enterPlayer_13 : decode cX6_enterPlayer 13 = .ok (.getfield 22, 3) := by decide +kernel
theorem dX6_enterPlayer_16 : decode cX6_enterPlayer 16 = .ok (.iload_n 2, 1) := by decide +kernel
theorem dX6_enterPlayer_17 : decode cX6_enterPlayer 17 = .ok (.iconst 0, 1) := by decide +kernel
theorem dX6_enterPlayer_18 : decode cX6_enterPlayer 18 = .ok (.iastore, 1) := by decide +kernel
theorem dX6_enterPlayer_19 : decode cX6_enterPlayer 19 = .ok (.aload_n 0, 1) := by decide +kernel
theorem dX6_enterPlayer_20 : decode cX6_enterPlayer 20 = .ok (.dup, 1) := by decide +kernel
theorem dX6_enterPlayer_21 : decode cX6_enterPlayer 21 = .ok (.getfield 35, 3) := by decide +kernel
theorem dX6_enterPlayer_24 : decode cX6_enterPlayer 24 = .ok (.iconst 1, 1) := by decide +kernel
theorem dX6_enterPlayer_25 : decode cX6_enterPlayer 25 = .ok (.iadd, 1) := by decide +kernel
theorem dX6_enterPlayer_26 : decode cX6_enterPlayer 26 = .ok (.putfield 35, 3) := by decide +kernel
theorem dX6_enterPlayer_29 : decode cX6_enterPlayer 29 = .ok (.iload_n 2, 1) := by decide +kernel
theorem dX6_enterPlayer_30 : decode cX6_enterPlayer 30 = .ok (.ireturn, 1) := by decide +kernel
theorem dX6_faultOfDrop_0 : decode cX6_faultOfDrop 0 = .ok (.aload_n 0, 1) := by decide +kernel
theorem dX6_faultOfDrop_1 : decode cX6_faultOfDrop 1 = .ok (.iload_n 1, 1) := by decide +kernel
theorem dX6_faultOfDrop_2 : decode cX6_faultOfDrop 2 = .ok (.invokevirtual 66, 3) := by decide +kernel
theorem dX6_faultOfDrop_5 : decode cX6_faultOfDrop 5 = .ok (.ifCond .ne 7, 3) := by decide +kernel
theorem dX6_faultOfDrop_8 : decode cX6_faultOfDrop 8 = .ok (.getstatic 70, 3) := by decide +kernel
theorem dX6_faultOfDrop_11 : decode cX6_faultOfDrop 11 = .ok (.areturn, 1) := by decide +kernel
theorem dX6_faultOfDrop_12 : decode cX6_faultOfDrop 12 = .ok (.aload_n 0, 1) := by decide +kernel
theorem dX6_faultOfDrop_13 : decode cX6_faultOfDrop 13 = .ok (.iload_n 2, 1) := by decide +kernel
theorem dX6_faultOfDrop_14 : decode cX6_faultOfDrop 14 = .ok (.iload_n 3, 1) := by decide +kernel
theorem dX6_faultOfDrop_15 : decode cX6_faultOfDrop 15 = .ok (.invokevirtual 73, 3) := by decide +kernel
theorem dX6_faultOfDrop_18 : decode cX6_faultOfDrop 18 = .ok (.astore 4, 2) := by decide +kernel
theorem dX6_faultOfDrop_20 : decode cX6_faultOfDrop 20 = .ok (.aload 4, 2) := by decide +kernel
theorem dX6_faultOfDrop_22 : decode cX6_faultOfDrop 22 = .ok (.getstatic 63, 3) := by decide +kernel
theorem dX6_faultOfDrop_25 : decode cX6_faultOfDrop 25 = .ok (.if_acmp .eq 6, 3) := by decide +kernel
theorem dX6_faultOfDrop_28 : decode cX6_faultOfDrop 28 = .ok (.aload 4, 2) := by decide +kernel
theorem dX6_faultOfDrop_30 : decode cX6_faultOfDrop 30 = .ok (.areturn, 1) := by decide +kernel
theorem dX6_faultOfDrop_31 : decode cX6_faultOfDrop 31 = .ok (.aload_n 0, 1) := by decide +kernel
theorem dX6_faultOfDrop_32 : decode cX6_faultOfDrop 32 = .ok (.getfield 22, 3) := by decide +kernel
theorem dX6_faultOfDrop_35 : decode cX6_faultOfDrop 35 = .ok (.iload_n 1, 1) := by decide +kernel
theorem dX6_faultOfDrop_36 : decode cX6_faultOfDrop 36 = .ok (.iaload, 1) := by decide +kernel
theorem dX6_faultOfDrop_37 : decode cX6_faultOfDrop 37 = .ok (.ifCond .le 7, 3) := by decide +kernel
theorem dX6_faultOfDrop_40 : decode cX6_faultOfDrop 40 = .ok (.getstatic 60, 3) := by decide +kernel
theorem dX6_faultOfDrop_43 : decode cX6_faultOfDrop 43 = .ok (.areturn, 1) := by decide +kernel
theorem dX6_faultOfDrop_44 : decode cX6_faultOfDrop 44 = .ok (.aload_n 0, 1) := by decide +kernel
theorem dX6_faultOfDrop_45 : decode cX6_faultOfDrop 45 = .ok (.getfield 18, 3) := by decide +kernel
theorem dX6_faultOfDrop_48 : decode cX6_faultOfDrop 48 = .ok (.iload_n 1, 1) := by decide +kernel
theorem dX6_faultOfDrop_49 : decode cX6_faultOfDrop 49 = .ok (.iaload, 1) := by decide +kernel
theorem dX6_faultOfDrop_50 : decode cX6_faultOfDrop 50 = .ok (.iload_n 3, 1) := by decide +kernel
theorem dX6_faultOfDrop_51 : decode cX6_faultOfDrop 51 = .ok (.if_icmp .ge 9, 3) := by decide +kernel
theorem dX6_faultOfDrop_54 : decode cX6_faultOfDrop 54 = .ok (.getstatic 77, 3) := by decide +kernel
theorem dX6_faultOfDrop_57 : decode cX6_faultOfDrop 57 = .ok (.goto 6, 3) := by decide +kernel
theorem dX6_faultOfDrop_60 : decode cX6_faultOfDrop 60 = .ok (.getstatic 63, 3) := by decide +kernel
theorem dX6_faultOfDrop_63 : decode cX6_faultOfDrop 63 = .ok (.areturn, 1) := by decide +kernel
theorem dX6_dropStones_0 : decode cX6_dropStones 0 = .ok (.aload_n 0, 1) := by decide +kernel
theorem dX6_dropStones_1 : decode cX6_dropStones 1 = .ok (.iload_n 1, 1) := by decide +kernel
theorem dX6_dropStones_2 : decode cX6_dropStones 2 = .ok (.invokevirtual 80, 3) := by decide +kernel
theorem dX6_dropStones_5 : decode cX6_dropStones 5 = .ok (.aload_n 0, 1) := by decide +kernel
theorem dX6_dropStones_6 : decode cX6_dropStones 6 = .ok (.getfield 18, 3) := by decide +kernel
theorem dX6_dropStones_9 : decode cX6_dropStones 9 = .ok (.iload_n 1, 1) := by decide +kernel
theorem dX6_dropStones_10 : decode cX6_dropStones 10 = .ok (.dup2, 1) := by decide +kernel
theorem dX6_dropStones_11 : decode cX6_dropStones 11 = .ok (.iaload, 1) := by decide +kernel
theorem dX6_dropStones_12 : decode cX6_dropStones 12 = .ok (.iload_n 3, 1) := by decide +kernel
theorem dX6_dropStones_13 : decode cX6_dropStones 13 = .ok (.isub, 1) := by decide +kernel
theorem dX6_dropStones_14 : decode cX6_dropStones 14 = .ok (.iastore, 1) := by decide +kernel
theorem dX6_dropStones_15 : decode cX6_dropStones 15 = .ok (.aload_n 0, 1) := by decide +kernel
theorem dX6_dropStones_16 : decode cX6_dropStones 16 = .ok (.dup, 1) := by decide +kernel
theorem dX6_dropStones_17 : decode cX6_dropStones 17 = .ok (.getfield 48, 3) := by decide +kernel
theorem dX6_dropStones_20 : decode cX6_dropStones 20 = .ok (.iload_n 3, 1) := by decide +kernel
theorem dX6_dropStones_21 : decode cX6_dropStones 21 = .ok (.iadd, 1) := by decide +kernel
theorem dX6_dropStones_22 : decode cX6_dropStones 22 = .ok (.putfield 48, 3) := by decide +kernel
theorem dX6_dropStones_25 : decode cX6_dropStones 25 = .ok (.aload_n 0, 1) := by decide +kernel
theorem dX6_dropStones_26 : decode cX6_dropStones 26 = .ok (.getfield 12, 3) := by decide +kernel
theorem dX6_dropStones_29 : decode cX6_dropStones 29 = .ok (.iload_n 2, 1) := by decide +kernel
theorem dX6_dropStones_30 : decode cX6_dropStones 30 = .ok (.iload_n 3, 1) := by decide +kernel
theorem dX6_dropStones_31 : decode cX6_dropStones 31 = .ok (.iload_n 1, 1) := by decide +kernel
theorem dX6_dropStones_32 : decode cX6_dropStones 32 = .ok (.invokevirtual 84, 3) := by decide +kernel
theorem dX6_dropStones_35 : decode cX6_dropStones 35 = .ok (.aload_n 0, 1) := by decide +kernel
theorem dX6_dropStones_36 : decode cX6_dropStones 36 = .ok (.aload_n 0, 1) := by decide +kernel
theorem dX6_dropStones_37 : decode cX6_dropStones 37 = .ok (.getfield 12, 3) := by decide +kernel
theorem dX6_dropStones_40 : decode cX6_dropStones 40 = .ok (.invokevirtual 88, 3) := by decide +kernel
theorem dX6_dropStones_43 : decode cX6_dropStones 43 = .ok (.invokevirtual 92, 3) := by decide +kernel
theorem dX6_dropStones_46 : decode cX6_dropStones 46 = .ok (.istore 4, 2) := by decide +kernel
theorem dX6_dropStones_48 : decode cX6_dropStones 48 = .ok (.iload 4, 2) := by decide +kernel
theorem dX6_dropStones_50 : decode cX6_dropStones 50 = .ok (.ifCond .le 13, 3) := by decide +kernel
theorem dX6_dropStones_53 : decode cX6_dropStones 53 = .ok (.aload_n 0, 1) := by decide +kernel
theorem dX6_dropStones_54 : decode cX6_dropStones 54 = .ok (.getfield 22, 3) := by decide +kernel
theorem dX6_dropStones_57 : decode cX6_dropStones 57 = .ok (.iload_n 1, 1) := by decide +kernel
theorem dX6_dropStones_58 : decode cX6_dropStones 58 = .ok (.iload 4, 2) := by decide +kernel
theorem dX6_dropStones_60 : decode cX6_dropStones 60 = .ok (.iconst 4, 1) := by decide +kernel
theorem dX6_dropStones_61 : decode cX6_dropStones 61 = .ok (.idiv, 1) := by decide +kernel
theorem dX6_dropStones_62 : decode cX6_dropStones 62 = .ok (.iastore, 1) := by decide +kernel
theorem dX6_dropStones_63 : decode cX6_dropStones 63 = .ok (.iload 4, 2) := by decide +kernel
theorem dX6_dropStones_65 : decode cX6_dropStones 65 = .ok (.ireturn, 1) := by decide +kernel
theorem dX6_faultOfPile_0 : decode cX6_faultOfPile 0 = .ok (.iload_n 1, 1) := by decide +kernel
theorem dX6_faultOfPile_1 : decode cX6_faultOfPile 1 = .ok (.invokestatic 96, 3) := by decide +kernel
theorem dX6_faultOfPile_4 : decode cX6_faultOfPile 4 = .ok (.ifCond .ne 7, 3) := by decide +kernel
theorem dX6_faultOfPile_7 : decode cX6_faultOfPile 7 = .ok (.getstatic 70, 3) := by decide +kernel
theorem dX6_faultOfPile_10 : decode cX6_faultOfPile 10 = .ok (.areturn, 1) := by decide +kernel
theorem dX6_faultOfPile_11 : decode cX6_faultOfPile 11 = .ok (.iload_n 2, 1) := by decide +kernel
theorem dX6_faultOfPile_12 : decode cX6_faultOfPile 12 = .ok (.invokestatic 99, 3) := by decide +kernel
theorem dX6_faultOfPile_15 : decode cX6_faultOfPile 15 = .ok (.ifCond .ne 7, 3) := by decide +kernel
theorem dX6_faultOfPile_18 : decode cX6_faultOfPile 18 = .ok (.getstatic 54, 3) := by decide +kernel
theorem dX6_faultOfPile_21 : decode cX6_faultOfPile 21 = .ok (.areturn, 1) := by decide +kernel
theorem dX6_faultOfPile_22 : decode cX6_faultOfPile 22 = .ok (.aload_n 0, 1) := by decide +kernel
theorem dX6_faultOfPile_23 : decode cX6_faultOfPile 23 = .ok (.getfield 12, 3) := by decide +kernel
theorem dX6_faultOfPile_26 : decode cX6_faultOfPile 26 = .ok (.invokevirtual 102, 3) := by decide +kernel
theorem dX6_faultOfPile_29 : decode cX6_faultOfPile 29 = .ok (.iload_n 2, 1) := by decide +kernel
theorem dX6_faultOfPile_30 : decode cX6_faultOfPile 30 = .ok (.iadd, 1) := by decide +kernel
theorem dX6_faultOfPile_31 : decode cX6_faultOfPile 31 = .ok (.sipush 300, 3) := by decide +kernel
theorem dX6_faultOfPile_34 : decode cX6_faultOfPile 34 = .ok (.if_icmp .le 7, 3) := by decide +kernel
theorem dX6_faultOfPile_37 : decode cX6_faultOfPile 37 = .ok (.iconst 1, 1) := by decide +kernel
theorem dX6_faultOfPile_38 : decode cX6_faultOfPile 38 = .ok (.goto 4, 3) := by decide +kernel
theorem dX6_faultOfPile_41 : decode cX6_faultOfPile 41 = .ok (.iconst 0, 1) := by decide +kernel
theorem dX6_faultOfPile_42 : decode cX6_faultOfPile 42 = .ok (.istore_n 3, 1) := by decide +kernel
theorem dX6_faultOfPile_43 : decode cX6_faultOfPile 43 = .ok (.iload_n 3, 1) := by decide +kernel
theorem dX6_faultOfPile_44 : decode cX6_faultOfPile 44 = .ok (.ifCond .eq 9, 3) := by decide +kernel
theorem dX6_faultOfPile_47 : decode cX6_faultOfPile 47 = .ok (.getstatic 60, 3) := by decide +kernel
theorem dX6_faultOfPile_50 : decode cX6_faultOfPile 50 = .ok (.goto 6, 3) := by decide +kernel
theorem dX6_faultOfPile_53 : decode cX6_faultOfPile 53 = .ok (.getstatic 63, 3) := by decide +kernel
theorem dX6_faultOfPile_56 : decode cX6_faultOfPile 56 = .ok (.areturn, 1) := by decide +kernel
theorem dX6_pileStones_0 : decode cX6_pileStones 0 = .ok (.aload_n 0, 1) := by decide +kernel
theorem dX6_pileStones_1 : decode cX6_pileStones 1 = .ok (.dup, 1) := by decide +kernel
theorem dX6_pileStones_2 : decode cX6_pileStones 2 = .ok (.getfield 48, 3) := by decide +kernel
theorem dX6_pileStones_5 : decode cX6_pileStones 5 = .ok (.iload_n 2, 1) := by decide +kernel
theorem dX6_pileStones_6 : decode cX6_pileStones 6 = .ok (.iadd, 1) := by decide +kernel
theorem dX6_pileStones_7 : decode cX6_pileStones 7 = .ok (.putfield 48, 3) := by decide +kernel
theorem dX6_pileStones_10 : decode cX6_pileStones 10 = .ok (.aload_n 0, 1) := by decide +kernel
theorem dX6_pileStones_11 : decode cX6_pileStones 11 = .ok (.getfield 12, 3) := by decide +kernel
theorem dX6_pileStones_14 : decode cX6_pileStones 14 = .ok (.iload_n 1, 1) := by decide +kernel
theorem dX6_pileStones_15 : decode cX6_pileStones 15 = .ok (.iload_n 2, 1) := by decide +kernel
theorem dX6_pileStones_16 : decode cX6_pileStones 16 = .ok (.iconst (-1), 1) := by decide +kernel
theorem dX6_pileStones_17 : decode cX6_pileStones 17 = .ok (.invokevirtual 84, 3) := by decide +kernel
theorem dX6_pileStones_20 : decode cX6_pileStones 20 = .ok (.aload_n 0, 1) := by decide +kernel
theorem dX6_pileStones_21 : decode cX6_pileStones 21 = .ok (.aload_n 0, 1) := by decide +kernel
theorem dX6_pileStones_22 : decode cX6_pileStones 22 = .ok (.getfield 12, 3) := by decide +kernel
theorem dX6_pileStones_25 : decode cX6_pileStones 25 = .ok (.invokevirtual 88, 3) := by decide +kernel
theorem dX6_pileStones_28 : decode cX6_pileStones 28 = .ok (.invokevirtual 92, 3) := by decide +kernel
theorem dX6_pileStones_31 : decode cX6_pileStones 31 = .ok (.ireturn, 1) := by decide +kernel
theorem dX6_faultOfTake_0 : decode cX6_faultOfTake 0 = .ok (.aload_n 0, 1) := by decide +kernel
theorem dX6_faultOfTake_1 : decode cX6_faultOfTake 1 = .ok (.iload_n 1, 1) := by decide +kernel
theorem dX6_faultOfTake_2 : decode cX6_faultOfTake 2 = .ok (.invokevirtual 66, 3) := by decide +kernel
theorem dX6_faultOfTake_5 : decode cX6_faultOfTake 5 = .ok (.ifCond .eq 10, 3) := by decide +kernel
theorem dX6_faultOfTake_8 : decode cX6_faultOfTake 8 = .ok (.iload_n 2, 1) := by decide +kernel
theorem dX6_faultOfTake_9 : decode cX6_faultOfTake 9 = .ok (.invokestatic 96, 3) := by decide +kernel
theorem dX6_faultOfTake_12 : decode cX6_faultOfTake 12 = .ok (.ifCond .ne 7, 3) := by decide +kernel
theorem dX6_faultOfTake_15 : decode cX6_faultOfTake 15 = .ok (.getstatic 70, 3) := by decide +kernel
theorem dX6_faultOfTake_18 : decode cX6_faultOfTake 18 = .ok (.areturn, 1) := by decide +kernel
theorem dX6_faultOfTake_19 : decode cX6_faultOfTake 19 = .ok (.aload_n 0, 1) := by decide +kernel
theorem dX6_faultOfTake_20 : decode cX6_faultOfTake 20 = .ok (.getfield 12, 3) := by decide +kernel
theorem dX6_faultOfTake_23 : decode cX6_faultOfTake 23 = .ok (.getfield 105, 3) := by decide +kernel
theorem dX6_faultOfTake_26 : decode cX6_faultOfTake 26 = .ok (.iload_n 2, 1) := by decide +kernel
theorem dX6_faultOfTake_27 : decode cX6_faultOfTake 27 = .ok (.iaload, 1) := by decide +kernel
theorem dX6_faultOfTake_28 : decode cX6_faultOfTake 28 = .ok (.ifCond .ne 7, 3) := by decide +kernel
theorem dX6_faultOfTake_31 : decode cX6_faultOfTake 31 = .ok (.getstatic 108, 3) := by decide +kernel
theorem dX6_faultOfTake_34 : decode cX6_faultOfTake 34 = .ok (.areturn, 1) := by decide +kernel
theorem dX6_faultOfTake_35 : decode cX6_faultOfTake 35 = .ok (.aload_n 0, 1) := by decide +kernel
theorem dX6_faultOfTake_36 : decode cX6_faultOfTake 36 = .ok (.getfield 12, 3) := by decide +kernel
theorem dX6_faultOfTake_39 : decode cX6_faultOfTake 39 = .ok (.getfield 111, 3) := by decide +kernel
theorem dX6_faultOfTake_42 : decode cX6_faultOfTake 42 = .ok (.iload_n 2, 1) := by decide +kernel
theorem dX6_faultOfTake_43 : decode cX6_faultOfTake 43 = .ok (.iaload, 1) := by decide +kernel
theorem dX6_faultOfTake_44 : decode cX6_faultOfTake 44 = .ok (.iload_n 1, 1) := by decide +kernel
theorem dX6_faultOfTake_45 : decode cX6_faultOfTake 45 = .ok (.if_icmp .eq 9, 3) := by decide +kernel
theorem dX6_faultOfTake_48 : decode cX6_faultOfTake 48 = .ok (.getstatic 77, 3) := by decide +kernel
theorem dX6_faultOfTake_51 : decode cX6_faultOfTake 51 = .ok (.goto 6, 3) := by decide +kernel
theorem dX6_faultOfTake_54 : decode cX6_faultOfTake 54 = .ok (.getstatic 63, 3) := by decide +kernel
theorem dX6_faultOfTake_57 : decode cX6_faultOfTake 57 = .ok (.areturn, 1) := by decide +kernel
theorem dX6_takeStone_0 : decode cX6_takeStone 0 = .ok (.aload_n 0, 1) := by decide +kernel
theorem dX6_takeStone_1 : decode cX6_takeStone 1 = .ok (.getfield 12, 3) := by decide +kernel
theorem dX6_takeStone_4 : decode cX6_takeStone 4 = .ok (.iload_n 2, 1) := by decide +kernel
theorem dX6_takeStone_5 : decode cX6_takeStone 5 = .ok (.invokevirtual 114, 3) := by decide +kernel
theorem dX6_takeStone_8 : decode cX6_takeStone 8 = .ok (.aload_n 0, 1) := by decide +kernel
theorem dX6_takeStone_9 : decode cX6_takeStone 9 = .ok (.getfield 18, 3) := by decide +kernel
theorem dX6_takeStone_12 : decode cX6_takeStone 12 = .ok (.iload_n 1, 1) := by decide +kernel
theorem dX6_takeStone_13 : decode cX6_takeStone 13 = .ok (.dup2, 1) := by decide +kernel
theorem dX6_takeStone_14 : decode cX6_takeStone 14 = .ok (.iaload, 1) := by decide +kernel
theorem dX6_takeStone_15 : decode cX6_takeStone 15 = .ok (.iconst 1, 1) := by decide +kernel
theorem dX6_takeStone_16 : decode cX6_takeStone 16 = .ok (.iadd, 1) := by decide +kernel
theorem dX6_takeStone_17 : decode cX6_takeStone 17 = .ok (.iastore, 1) := by decide +kernel
theorem dX6_takeStone_18 : decode cX6_takeStone 18 = .ok (.aload_n 0, 1) := by decide +kernel
theorem dX6_takeStone_19 : decode cX6_takeStone 19 = .ok (.dup, 1) := by decide +kernel
theorem dX6_takeStone_20 : decode cX6_takeStone 20 = .ok (.getfield 51, 3) := by decide +kernel
theorem dX6_takeStone_23 : decode cX6_takeStone 23 = .ok (.iconst 1, 1) := by decide +kernel
theorem dX6_takeStone_24 : decode cX6_takeStone 24 = .ok (.iadd, 1) := by decide +kernel
theorem dX6_takeStone_25 : decode cX6_takeStone 25 = .ok (.putfield 51, 3) := by decide +kernel
theorem dX6_takeStone_28 : decode cX6_takeStone 28 = .ok (.aload_n 0, 1) := by decide +kernel
theorem dX6_takeStone_29 : decode cX6_takeStone 29 = .ok (.aload_n 0, 1) := by decide +kernel
theorem dX6_takeStone_30 : decode cX6_takeStone 30 = .ok (.getfield 12, 3) := by decide +kernel
theorem dX6_takeStone_33 : decode cX6_takeStone 33 = .ok (.invokevirtual 88, 3) := by decide +kernel
theorem dX6_takeStone_36 : decode cX6_takeStone 36 = .ok (.invokevirtual 92, 3) := by decide +kernel
theorem dX6_takeStone_39 : decode cX6_takeStone 39 = .ok (.ireturn, 1) := by decide +kernel
theorem dX6_passRound_0 : decode cX6_passRound 0 = .ok (.iconst 0, 1) := by decide +kernel
theorem dX6_passRound_1 : decode cX6_passRound 1 = .ok (.istore_n 2, 1) := by decide +kernel
theorem dX6_passRound_2 : decode cX6_passRound 2 = .ok (.iload_n 2, 1) := by decide +kernel
theorem dX6_passRound_3 : decode cX6_passRound 3 = .ok (.aload_n 0, 1) := by decide +kernel
theorem dX6_passRound_4 : decode cX6_passRound 4 = .ok (.getfield 35, 3) := by decide +kernel
theorem dX6_passRound_7 : decode cX6_passRound 7 = .ok (.if_icmp .ge 33, 3) := by decide +kernel
theorem dX6_passRound_10 : decode cX6_passRound 10 = .ok (.iload_n 2, 1) := by decide +kernel
theorem dX6_passRound_11 : decode cX6_passRound 11 = .ok (.iload_n 1, 1) := by decide +kernel
theorem dX6_passRound_12 : decode cX6_passRound 12 = .ok (.if_icmp .eq 22, 3) := by decide +kernel
theorem dX6_passRound_15 : decode cX6_passRound 15 = .ok (.aload_n 0, 1) := by decide +kernel
theorem dX6_passRound_16 : decode cX6_passRound 16 = .ok (.getfield 22, 3) := by decide +kernel
theorem dX6_passRound_19 : decode cX6_passRound 19 = .ok (.iload_n 2, 1) := by decide +kernel
theorem dX6_passRound_20 : decode cX6_passRound 20 = .ok (.iaload, 1) := by decide +kernel
theorem dX6_passRound_21 : decode cX6_passRound 21 = .ok (.ifCond .le 13, 3) := by decide +kernel
theorem dX6_passRound_24 : decode cX6_passRound 24 = .ok (.aload_n 0, 1) := by decide +kernel
theorem dX6_passRound_25 : decode cX6_passRound 25 = .ok (.getfield 22, 3) := by decide +kernel
theorem dX6_passRound_28 : decode cX6_passRound 28 = .ok (.iload_n 2, 1) := by decide +kernel
theorem dX6_passRound_29 : decode cX6_passRound 29 = .ok (.dup2, 1) := by decide +kernel
theorem dX6_passRound_30 : decode cX6_passRound 30 = .ok (.iaload, 1) := by decide +kernel
theorem dX6_passRound_31 : decode cX6_passRound 31 = .ok (.iconst 1, 1) := by decide +kernel
theorem dX6_passRound_32 : decode cX6_passRound 32 = .ok (.isub, 1) := by decide +kernel
theorem dX6_passRound_33 : decode cX6_passRound 33 = .ok (.iastore, 1) := by decide +kernel
theorem dX6_passRound_34 : decode cX6_passRound 34 = .ok (.iinc 2 1, 3) := by decide +kernel
theorem dX6_passRound_37 : decode cX6_passRound 37 = .ok (.goto (-35), 3) := by decide +kernel
theorem dX6_passRound_40 : decode cX6_passRound 40 = .ok (.return_, 1) := by decide +kernel
theorem dX6_countResting_0 : decode cX6_countResting 0 = .ok (.iconst 0, 1) := by decide +kernel
theorem dX6_countResting_1 : decode cX6_countResting 1 = .ok (.istore_n 1, 1) := by decide +kernel
theorem dX6_countResting_2 : decode cX6_countResting 2 = .ok (.iconst 0, 1) := by decide +kernel
theorem dX6_countResting_3 : decode cX6_countResting 3 = .ok (.istore_n 2, 1) := by decide +kernel
theorem dX6_countResting_4 : decode cX6_countResting 4 = .ok (.iload_n 2, 1) := by decide +kernel
theorem dX6_countResting_5 : decode cX6_countResting 5 = .ok (.aload_n 0, 1) := by decide +kernel
theorem dX6_countResting_6 : decode cX6_countResting 6 = .ok (.getfield 35, 3) := by decide +kernel
theorem dX6_countResting_9 : decode cX6_countResting 9 = .ok (.if_icmp .ge 21, 3) := by decide +kernel
theorem dX6_countResting_12 : decode cX6_countResting 12 = .ok (.aload_n 0, 1) := by decide +kernel
theorem dX6_countResting_13 : decode cX6_countResting 13 = .ok (.getfield 22, 3) := by decide +kernel
theorem dX6_countResting_16 : decode cX6_countResting 16 = .ok (.iload_n 2, 1) := by decide +kernel
theorem dX6_countResting_17 : decode cX6_countResting 17 = .ok (.iaload, 1) := by decide +kernel
theorem dX6_countResting_18 : decode cX6_countResting 18 = .ok (.ifCond .le 6, 3) := by decide +kernel
theorem dX6_countResting_21 : decode cX6_countResting 21 = .ok (.iinc 1 1, 3) := by decide +kernel
theorem dX6_countResting_24 : decode cX6_countResting 24 = .ok (.iinc 2 1, 3) := by decide +kernel
theorem dX6_countResting_27 : decode cX6_countResting 27 = .ok (.goto (-23), 3) := by decide +kernel
theorem dX6_countResting_30 : decode cX6_countResting 30 = .ok (.iload_n 1, 1) := by decide +kernel
theorem dX6_countResting_31 : decode cX6_countResting 31 = .ok (.ireturn, 1) := by decide +kernel
theorem dX6_faultOfSlope_0 : decode cX6_faultOfSlope 0 = .ok (.iload_n 1, 1) := by decide +kernel
theorem dX6_faultOfSlope_1 : decode cX6_faultOfSlope 1 = .ok (.iconst 2, 1) := by decide +kernel
theorem dX6_faultOfSlope_2 : decode cX6_faultOfSlope 2 = .ok (.if_icmp .lt 13, 3) := by decide +kernel
theorem dX6_faultOfSlope_5 : decode cX6_faultOfSlope 5 = .ok (.iload_n 1, 1) := by decide +kernel
theorem dX6_faultOfSlope_6 : decode cX6_faultOfSlope 6 = .ok (.bipush 6, 2) := by decide +kernel
theorem dX6_faultOfSlope_8 : decode cX6_faultOfSlope 8 = .ok (.if_icmp .gt 7, 3) := by decide +kernel
theorem dX6_faultOfSlope_11 : decode cX6_faultOfSlope 11 = .ok (.iconst 1, 1) := by decide +kernel
theorem dX6_faultOfSlope_12 : decode cX6_faultOfSlope 12 = .ok (.goto 4, 3) := by decide +kernel
theorem dX6_faultOfSlope_15 : decode cX6_faultOfSlope 15 = .ok (.iconst 0, 1) := by decide +kernel
theorem dX6_faultOfSlope_16 : decode cX6_faultOfSlope 16 = .ok (.istore_n 2, 1) := by decide +kernel
theorem dX6_faultOfSlope_17 : decode cX6_faultOfSlope 17 = .ok (.iload_n 2, 1) := by decide +kernel
theorem dX6_faultOfSlope_18 : decode cX6_faultOfSlope 18 = .ok (.ifCond .eq 9, 3) := by decide +kernel
theorem dX6_faultOfSlope_21 : decode cX6_faultOfSlope 21 = .ok (.getstatic 63, 3) := by decide +kernel
theorem dX6_faultOfSlope_24 : decode cX6_faultOfSlope 24 = .ok (.goto 6, 3) := by decide +kernel
theorem dX6_faultOfSlope_27 : decode cX6_faultOfSlope 27 = .ok (.getstatic 54, 3) := by decide +kernel
theorem dX6_faultOfSlope_30 : decode cX6_faultOfSlope 30 = .ok (.areturn, 1) := by decide +kernel
theorem dX6_changeSlope_0 : decode cX6_changeSlope 0 = .ok (.aload_n 0, 1) := by decide +kernel
theorem dX6_changeSlope_1 : decode cX6_changeSlope 1 = .ok (.getfield 12, 3) := by decide +kernel
theorem dX6_changeSlope_4 : decode cX6_changeSlope 4 = .ok (.iload_n 1, 1) := by decide +kernel
theorem dX6_changeSlope_5 : decode cX6_changeSlope 5 = .ok (.putfield 117, 3) := by decide +kernel
theorem dX6_changeSlope_8 : decode cX6_changeSlope 8 = .ok (.aload_n 0, 1) := by decide +kernel
theorem dX6_changeSlope_9 : decode cX6_changeSlope 9 = .ok (.aload_n 0, 1) := by decide +kernel
theorem dX6_changeSlope_10 : decode cX6_changeSlope 10 = .ok (.getfield 12, 3) := by decide +kernel
theorem dX6_changeSlope_13 : decode cX6_changeSlope 13 = .ok (.invokevirtual 88, 3) := by decide +kernel
theorem dX6_changeSlope_16 : decode cX6_changeSlope 16 = .ok (.invokevirtual 92, 3) := by decide +kernel
theorem dX6_changeSlope_19 : decode cX6_changeSlope 19 = .ok (.ireturn, 1) := by decide +kernel
theorem dX6_changeBorder_0 : decode cX6_changeBorder 0 = .ok (.aload_n 0, 1) := by decide +kernel
theorem dX6_changeBorder_1 : decode cX6_changeBorder 1 = .ok (.getfield 12, 3) := by decide +kernel
theorem dX6_changeBorder_4 : decode cX6_changeBorder 4 = .ok (.iload_n 1, 1) := by decide +kernel
theorem dX6_changeBorder_5 : decode cX6_changeBorder 5 = .ok (.putfield 120, 3) := by decide +kernel
theorem dX6_changeBorder_8 : decode cX6_changeBorder 8 = .ok (.aload_n 0, 1) := by decide +kernel
theorem dX6_changeBorder_9 : decode cX6_changeBorder 9 = .ok (.aload_n 0, 1) := by decide +kernel
theorem dX6_changeBorder_10 : decode cX6_changeBorder 10 = .ok (.getfield 12, 3) := by decide +kernel
theorem dX6_changeBorder_13 : decode cX6_changeBorder 13 = .ok (.invokevirtual 88, 3) := by decide +kernel
theorem dX6_changeBorder_16 : decode cX6_changeBorder 16 = .ok (.invokevirtual 92, 3) := by decide +kernel
theorem dX6_changeBorder_19 : decode cX6_changeBorder 19 = .ok (.pop, 1) := by decide +kernel
theorem dX6_changeBorder_20 : decode cX6_changeBorder 20 = .ok (.return_, 1) := by decide +kernel
theorem dX6_countAvalanche_0 : decode cX6_countAvalanche 0 = .ok (.iload_n 1, 1) := by decide +kernel
theorem dX6_countAvalanche_1 : decode cX6_countAvalanche 1 = .ok (.ifCond .le 35, 3) := by decide +kernel
theorem dX6_countAvalanche_4 : decode cX6_countAvalanche 4 = .ok (.aload_n 0, 1) := by decide +kernel
theorem dX6_countAvalanche_5 : decode cX6_countAvalanche 5 = .ok (.dup, 1) := by decide +kernel
theorem dX6_countAvalanche_6 : decode cX6_countAvalanche 6 = .ok (.getfield 39, 3) := by decide +kernel
theorem dX6_countAvalanche_9 : decode cX6_countAvalanche 9 = .ok (.iload_n 1, 1) := by decide +kernel
theorem dX6_countAvalanche_10 : decode cX6_countAvalanche 10 = .ok (.iadd, 1) := by decide +kernel
theorem dX6_countAvalanche_11 : decode cX6_countAvalanche 11 = .ok (.putfield 39, 3) := by decide +kernel
theorem dX6_countAvalanche_14 : decode cX6_countAvalanche 14 = .ok (.aload_n 0, 1) := by decide +kernel
theorem dX6_countAvalanche_15 : decode cX6_countAvalanche 15 = .ok (.dup, 1) := by decide +kernel
theorem dX6_countAvalanche_16 : decode cX6_countAvalanche 16 = .ok (.getfield 42, 3) := by decide +kernel
theorem dX6_countAvalanche_19 : decode cX6_countAvalanche 19 = .ok (.iconst 1, 1) := by decide +kernel
theorem dX6_countAvalanche_20 : decode cX6_countAvalanche 20 = .ok (.iadd, 1) := by decide +kernel
theorem dX6_countAvalanche_21 : decode cX6_countAvalanche 21 = .ok (.putfield 42, 3) := by decide +kernel
theorem dX6_countAvalanche_24 : decode cX6_countAvalanche 24 = .ok (.aload_n 0, 1) := by decide +kernel
theorem dX6_countAvalanche_25 : decode cX6_countAvalanche 25 = .ok (.aload_n 0, 1) := by decide +kernel
theorem dX6_countAvalanche_26 : decode cX6_countAvalanche 26 = .ok (.getfield 45, 3) := by decide +kernel
theorem dX6_countAvalanche_29 : decode cX6_countAvalanche 29 = .ok (.iload_n 1, 1) := by decide +kernel
theorem dX6_countAvalanche_30 : decode cX6_countAvalanche 30 = .ok (.invokestatic 124, 3) := by decide +kernel
theorem dX6_countAvalanche_33 : decode cX6_countAvalanche 33 = .ok (.putfield 45, 3) := by decide +kernel
theorem dX6_countAvalanche_36 : decode cX6_countAvalanche 36 = .ok (.iload_n 1, 1) := by decide +kernel
theorem dX6_countAvalanche_37 : decode cX6_countAvalanche 37 = .ok (.ireturn, 1) := by decide +kernel
theorem dX6_countPlayersAhead_0 : decode cX6_countPlayersAhead 0 = .ok (.iconst 0, 1) := by decide +kernel
theorem dX6_countPlayersAhead_1 : decode cX6_countPlayersAhead 1 = .ok (.istore_n 2, 1) := by decide +kernel
theorem dX6_countPlayersAhead_2 : decode cX6_countPlayersAhead 2 = .ok (.iconst 0, 1) := by decide +kernel
theorem dX6_countPlayersAhead_3 : decode cX6_countPlayersAhead 3 = .ok (.istore_n 3, 1) := by decide +kernel
theorem dX6_countPlayersAhead_4 : decode cX6_countPlayersAhead 4 = .ok (.iload_n 3, 1) := by decide +kernel
theorem dX6_countPlayersAhead_5 : decode cX6_countPlayersAhead 5 = .ok (.aload_n 0, 1) := by decide +kernel
theorem dX6_countPlayersAhead_6 : decode cX6_countPlayersAhead 6 = .ok (.getfield 35, 3) := by decide +kernel
theorem dX6_countPlayersAhead_9 : decode cX6_countPlayersAhead 9 = .ok (.if_icmp .ge 21, 3) := by decide +kernel
theorem dX6_countPlayersAhead_12 : decode cX6_countPlayersAhead 12 = .ok (.aload_n 0, 1) := by decide +kernel
theorem dX6_countPlayersAhead_13 : decode cX6_countPlayersAhead 13 = .ok (.iload_n 3, 1) := by decide +kernel
theorem dX6_countPlayersAhead_14 : decode cX6_countPlayersAhead 14 = .ok (.iload_n 1, 1) := by decide +kernel
theorem dX6_countPlayersAhead_15 : decode cX6_countPlayersAhead 15 = .ok (.invokevirtual 130, 3) := by decide +kernel
theorem dX6_countPlayersAhead_18 : decode cX6_countPlayersAhead 18 = .ok (.ifCond .eq 6, 3) := by decide +kernel
theorem dX6_countPlayersAhead_21 : decode cX6_countPlayersAhead 21 = .ok (.iinc 2 1, 3) := by decide +kernel
theorem dX6_countPlayersAhead_24 : decode cX6_countPlayersAhead 24 = .ok (.iinc 3 1, 3) := by decide +kernel
theorem dX6_countPlayersAhead_27 : decode cX6_countPlayersAhead 27 = .ok (.goto (-23), 3) := by decide +kernel
theorem dX6_countPlayersAhead_30 : decode cX6_countPlayersAhead 30 = .ok (.iload_n 2, 1) := by decide +kernel
theorem dX6_countPlayersAhead_31 : decode cX6_countPlayersAhead 31 = .ok (.ireturn, 1) := by decide +kernel
theorem dX6_isAhead_0 : decode cX6_isAhead 0 = .ok (.aload_n 0, 1) := by decide +kernel
theorem dX6_isAhead_1 : decode cX6_isAhead 1 = .ok (.getfield 12, 3) := by decide +kernel
theorem dX6_isAhead_4 : decode cX6_isAhead 4 = .ok (.iload_n 1, 1) := by decide +kernel
theorem dX6_isAhead_5 : decode cX6_isAhead 5 = .ok (.invokevirtual 134, 3) := by decide +kernel
theorem dX6_isAhead_8 : decode cX6_isAhead 8 = .ok (.aload_n 0, 1) := by decide +kernel
theorem dX6_isAhead_9 : decode cX6_isAhead 9 = .ok (.getfield 12, 3) := by decide +kernel
theorem dX6_isAhead_12 : decode cX6_isAhead 12 = .ok (.iload_n 2, 1) := by decide +kernel
theorem dX6_isAhead_13 : decode cX6_isAhead 13 = .ok (.invokevirtual 134, 3) := by decide +kernel
theorem dX6_isAhead_16 : decode cX6_isAhead 16 = .ok (.isub, 1) := by decide +kernel
theorem dX6_isAhead_17 : decode cX6_isAhead 17 = .ok (.istore_n 3, 1) := by decide +kernel
theorem dX6_isAhead_18 : decode cX6_isAhead 18 = .ok (.iload_n 3, 1) := by decide +kernel
theorem dX6_isAhead_19 : decode cX6_isAhead 19 = .ok (.ifCond .ne 17, 3) := by decide +kernel
theorem dX6_isAhead_22 : decode cX6_isAhead 22 = .ok (.aload_n 0, 1) := by decide +kernel
theorem dX6_isAhead_23 : decode cX6_isAhead 23 = .ok (.getfield 18, 3) := by decide +kernel
theorem dX6_isAhead_26 : decode cX6_isAhead 26 = .ok (.iload_n 1, 1) := by decide +kernel
theorem dX6_isAhead_27 : decode cX6_isAhead 27 = .ok (.iaload, 1) := by decide +kernel
theorem dX6_isAhead_28 : decode cX6_isAhead 28 = .ok (.aload_n 0, 1) := by decide +kernel
theorem dX6_isAhead_29 : decode cX6_isAhead 29 = .ok (.getfield 18, 3) := by decide +kernel
theorem dX6_isAhead_32 : decode cX6_isAhead 32 = .ok (.iload_n 2, 1) := by decide +kernel
theorem dX6_isAhead_33 : decode cX6_isAhead 33 = .ok (.iaload, 1) := by decide +kernel
theorem dX6_isAhead_34 : decode cX6_isAhead 34 = .ok (.isub, 1) := by decide +kernel
theorem dX6_isAhead_35 : decode cX6_isAhead 35 = .ok (.istore_n 3, 1) := by decide +kernel
theorem dX6_isAhead_36 : decode cX6_isAhead 36 = .ok (.iload_n 3, 1) := by decide +kernel
theorem dX6_isAhead_37 : decode cX6_isAhead 37 = .ok (.ifCond .gt 12, 3) := by decide +kernel
theorem dX6_isAhead_40 : decode cX6_isAhead 40 = .ok (.iload_n 3, 1) := by decide +kernel
theorem dX6_isAhead_41 : decode cX6_isAhead 41 = .ok (.ifCond .ne 12, 3) := by decide +kernel
theorem dX6_isAhead_44 : decode cX6_isAhead 44 = .ok (.iload_n 1, 1) := by decide +kernel
theorem dX6_isAhead_45 : decode cX6_isAhead 45 = .ok (.iload_n 2, 1) := by decide +kernel
theorem dX6_isAhead_46 : decode cX6_isAhead 46 = .ok (.if_icmp .ge 7, 3) := by decide +kernel
theorem dX6_isAhead_49 : decode cX6_isAhead 49 = .ok (.iconst 1, 1) := by decide +kernel
theorem dX6_isAhead_50 : decode cX6_isAhead 50 = .ok (.goto 4, 3) := by decide +kernel
theorem dX6_isAhead_53 : decode cX6_isAhead 53 = .ok (.iconst 0, 1) := by decide +kernel
theorem dX6_isAhead_54 : decode cX6_isAhead 54 = .ok (.ireturn, 1) := by decide +kernel
theorem dX7_init_0 : decode cX7_init 0 = .ok (.aload_n 0, 1) := by decide +kernel
theorem dX7_init_1 : decode cX7_init 1 = .ok (.invokespecial 3, 3) := by decide +kernel
theorem dX7_init_4 : decode cX7_init 4 = .ok (.aload_n 0, 1) := by decide +kernel
theorem dX7_init_5 : decode cX7_init 5 = .ok (.new 9, 3) := by decide +kernel
theorem dX7_init_8 : decode cX7_init 8 = .ok (.dup, 1) := by decide +kernel
theorem dX7_init_9 : decode cX7_init 9 = .ok (.invokespecial 11, 3) := by decide +kernel
theorem dX7_init_12 : decode cX7_init 12 = .ok (.putfield 12, 3) := by decide +kernel
theorem dX7_init_15 : decode cX7_init 15 = .ok (.aload_n 0, 1) := by decide +kernel
theorem dX7_init_16 : decode cX7_init 16 = .ok (.bipush 25, 2) := by decide +kernel
theorem dX7_init_18 : decode cX7_init 18 = .ok (.newarray .int, 2) := by decide +kernel
theorem dX7_init_20 : decode cX7_init 20 = .ok (.putfield 18, 3) := by decide +kernel
theorem dX7_init_23 : decode cX7_init 23 = .ok (.return_, 1) := by decide +kernel
theorem dX7_countByScan_0 : decode cX7_countByScan 0 = .ok (.aload_n 0, 1) := by decide +kernel
theorem dX7_countByScan_1 : decode cX7_countByScan 1 = .ok (.aload_n 1, 1) := by decide +kernel
theorem dX7_countByScan_2 : decode cX7_countByScan 2 = .ok (.iload_n 2, 1) := by decide +kernel
theorem dX7_countByScan_3 : decode cX7_countByScan 3 = .ok (.iload_n 3, 1) := by decide +kernel
theorem dX7_countByScan_4 : decode cX7_countByScan 4 = .ok (.invokevirtual 22, 3) := by decide +kernel
theorem dX7_countByScan_7 : decode cX7_countByScan 7 = .ok (.aload_n 0, 1) := by decide +kernel
theorem dX7_countByScan_8 : decode cX7_countByScan 8 = .ok (.getfield 12, 3) := by decide +kernel
theorem dX7_countByScan_11 : decode cX7_countByScan 11 = .ok (.invokevirtual 26, 3) := by decide +kernel
theorem dX7_countByScan_14 : decode cX7_countByScan 14 = .ok (.ireturn, 1) := by decide +kernel
theorem dX7_countByQueue_0 : decode cX7_countByQueue 0 = .ok (.aload_n 0, 1) := by decide +kernel
theorem dX7_countByQueue_1 : decode cX7_countByQueue 1 = .ok (.aload_n 1, 1) := by decide +kernel
theorem dX7_countByQueue_2 : decode cX7_countByQueue 2 = .ok (.iload_n 2, 1) := by decide +kernel
theorem dX7_countByQueue_3 : decode cX7_countByQueue 3 = .ok (.iload_n 3, 1) := by decide +kernel
theorem dX7_countByQueue_4 : decode cX7_countByQueue 4 = .ok (.invokevirtual 22, 3) := by decide +kernel
theorem dX7_countByQueue_7 : decode cX7_countByQueue 7 = .ok (.aload_n 0, 1) := by decide +kernel
theorem dX7_countByQueue_8 : decode cX7_countByQueue 8 = .ok (.invokevirtual 30, 3) := by decide +kernel
theorem dX7_countByQueue_11 : decode cX7_countByQueue 11 = .ok (.iconst 0, 1) := by decide +kernel
theorem dX7_countByQueue_12 : decode cX7_countByQueue 12 = .ok (.istore 4, 2) := by decide +kernel
theorem dX7_countByQueue_14 : decode cX7_countByQueue 14 = .ok (.iload 4, 2) := by decide +kernel
theorem dX7_countByQueue_16 : decode cX7_countByQueue 16 = .ok (.ldc 33, 2) := by decide +kernel
theorem dX7_countByQueue_18 : decode cX7_countByQueue 18 = .ok (.if_icmp .ge 52, 3) := by decide +kernel
theorem dX7_countByQueue_21 : decode cX7_countByQueue 21 = .ok (.aload_n 0, 1) := by decide +kernel
theorem dX7_countByQueue_22 : decode cX7_countByQueue 22 = .ok (.getfield 34, 3) := by decide +kernel
theorem dX7_countByQueue_25 : decode cX7_countByQueue 25 = .ok (.ifCond .le 45, 3) := by decide +kernel
theorem dX7_countByQueue_28 : decode cX7_countByQueue 28 = .ok (.aload_n 0, 1) := by decide +kernel
theorem dX7_countByQueue_29 : decode cX7_countByQueue 29 = .ok (.invokevirtual 38, 3) := by decide +kernel
theorem dX7_countByQueue_32 : decode cX7_countByQueue 32 = .ok (.istore 5, 2) := by decide +kernel
theorem dX7_countByQueue_34 : decode cX7_countByQueue 34 = .ok (.aload_n 0, 1) := by decide +kernel
theorem dX7_countByQueue_35 : decode cX7_countByQueue 35 = .ok (.getfield 12, 3) := by decide +kernel
theorem dX7_countByQueue_38 : decode cX7_countByQueue 38 = .ok (.iload 5, 2) := by decide +kernel
theorem dX7_countByQueue_40 : decode cX7_countByQueue 40 = .ok (.invokevirtual 41, 3) := by decide +kernel
theorem dX7_countByQueue_43 : decode cX7_countByQueue 43 = .ok (.istore 6, 2) := by decide +kernel
theorem dX7_countByQueue_45 : decode cX7_countByQueue 45 = .ok (.iload 6, 2) := by decide +kernel
theorem dX7_countByQueue_47 : decode cX7_countByQueue 47 = .ok (.bipush 25, 2) := by decide +kernel
theorem dX7_countByQueue_49 : decode cX7_countByQueue 49 = .ok (.if_icmp .eq 9, 3) := by decide +kernel
theorem dX7_countByQueue_52 : decode cX7_countByQueue 52 = .ok (.aload_n 0, 1) := by decide +kernel
theorem dX7_countByQueue_53 : decode cX7_countByQueue 53 = .ok (.iload 6, 2) := by decide +kernel
theorem dX7_countByQueue_55 : decode cX7_countByQueue 55 = .ok (.invokevirtual 45, 3) := by decide +kernel
theorem dX7_countByQueue_58 : decode cX7_countByQueue 58 = .ok (.aload_n 0, 1) := by decide +kernel
theorem dX7_countByQueue_59 : decode cX7_countByQueue 59 = .ok (.iload 5, 2) := by decide +kernel
theorem dX7_countByQueue_61 : decode cX7_countByQueue 61 = .ok (.invokevirtual 45, 3) := by decide +kernel
theorem dX7_countByQueue_64 : decode cX7_countByQueue 64 = .ok (.iinc 4 1, 3) := by decide +kernel
theorem dX7_countByQueue_67 : decode cX7_countByQueue 67 = .ok (.goto (-53), 3) := by decide +kernel
theorem dX7_countByQueue_70 : decode cX7_countByQueue 70 = .ok (.iload 4, 2) := by decide +kernel
theorem dX7_countByQueue_72 : decode cX7_countByQueue 72 = .ok (.ireturn, 1) := by decide +kernel
theorem dX7_begin_0 : decode cX7_begin 0 = .ok (.aload_n 0, 1) := by decide +kernel
theorem dX7_begin_1 : decode cX7_begin 1 = .ok (.getfield 12, 3) := by decide +kernel
theorem dX7_begin_4 : decode cX7_begin 4 = .ok (.aload_n 1, 1) := by decide +kernel
theorem dX7_begin_5 : decode cX7_begin 5 = .ok (.invokevirtual 49, 3) := by decide +kernel
theorem dX7_begin_8 : decode cX7_begin 8 = .ok (.aload_n 0, 1) := by decide +kernel
theorem dX7_begin_9 : decode cX7_begin 9 = .ok (.getfield 12, 3) := by decide +kernel
theorem dX7_begin_12 : decode cX7_begin 12 = .ok (.iload_n 2, 1) := by decide +kernel
theorem dX7_begin_13 : decode cX7_begin 13 = .ok (.iload_n 3, 1) := by decide +kernel
theorem dX7_begin_14 : decode cX7_begin 14 = .ok (.iconst (-1), 1) := by decide +kernel
theorem dX7_begin_15 : decode cX7_begin 15 = .ok (.invokevirtual 53, 3) := by decide +kernel
theorem dX7_begin_18 : decode cX7_begin 18 = .ok (.return_, 1) := by decide +kernel
theorem dX7_fillQueue_0 : decode cX7_fillQueue 0 = .ok (.aload_n 0, 1) := by decide +kernel
theorem dX7_fillQueue_1 : decode cX7_fillQueue 1 = .ok (.iconst 0, 1) := by decide +kernel
theorem dX7_fillQueue_2 : decode cX7_fillQueue 2 = .ok (.putfield 34, 3) := by decide +kernel
theorem dX7_fillQueue_5 : decode cX7_fillQueue 5 = .ok (.iconst 0, 1) := by decide +kernel
theorem dX7_fillQueue_6 : decode cX7_fillQueue 6 = .ok (.istore_n 1, 1) := by decide +kernel
theorem dX7_fillQueue_7 : decode cX7_fillQueue 7 = .ok (.iload_n 1, 1) := by decide +kernel
theorem dX7_fillQueue_8 : decode cX7_fillQueue 8 = .ok (.bipush 25, 2) := by decide +kernel
theorem dX7_fillQueue_10 : decode cX7_fillQueue 10 = .ok (.if_icmp .ge 14, 3) := by decide +kernel
theorem dX7_fillQueue_13 : decode cX7_fillQueue 13 = .ok (.aload_n 0, 1) := by decide +kernel
theorem dX7_fillQueue_14 : decode cX7_fillQueue 14 = .ok (.iload_n 1, 1) := by decide +kernel
theorem dX7_fillQueue_15 : decode cX7_fillQueue 15 = .ok (.invokevirtual 57, 3) := by decide +kernel
theorem dX7_fillQueue_18 : decode cX7_fillQueue 18 = .ok (.iinc 1 1, 3) := by decide +kernel
theorem dX7_fillQueue_21 : decode cX7_fillQueue 21 = .ok (.goto (-14), 3) := by decide +kernel
theorem dX7_fillQueue_24 : decode cX7_fillQueue 24 = .ok (.return_, 1) := by decide +kernel
theorem dX7_removeFirst_0 : decode cX7_removeFirst 0 = .ok (.aload_n 0, 1) := by decide +kernel
theorem dX7_removeFirst_1 : decode cX7_removeFirst 1 = .ok (.getfield 18, 3) := by decide +kernel
theorem dX7_removeFirst_4 : decode cX7_removeFirst 4 = .ok (.iconst 0, 1) := by decide +kernel
theorem dX7_removeFirst_5 : decode cX7_removeFirst 5 = .ok (.iaload, 1) := by decide +kernel
theorem dX7_removeFirst_6 : decode cX7_removeFirst 6 = .ok (.istore_n 1, 1) := by decide +kernel
theorem dX7_removeFirst_7 : decode cX7_removeFirst 7 = .ok (.aload_n 0, 1) := by decide +kernel
theorem dX7_removeFirst_8 : decode cX7_removeFirst 8 = .ok (.iload_n 1, 1) := by decide +kernel
theorem dX7_removeFirst_9 : decode cX7_removeFirst 9 = .ok (.invokevirtual 60, 3) := by decide +kernel
theorem dX7_removeFirst_12 : decode cX7_removeFirst 12 = .ok (.iload_n 1, 1) := by decide +kernel
theorem dX7_removeFirst_13 : decode cX7_removeFirst 13 = .ok (.ireturn, 1) := by decide +kernel
theorem dX7_refreshAround_0 : decode cX7_refreshAround 0 = .ok (.aload_n 0, 1) := by decide +kernel
theorem dX7_refreshAround_1 : decode cX7_refreshAround 1 = .ok (.iload_n 1, 1) := by decide +kernel
theorem dX7_refreshAround_2 : decode cX7_refreshAround 2 = .ok (.invokevirtual 57, 3) := by decide +kernel
theorem dX7_refreshAround_5 : decode cX7_refreshAround 5 = .ok (.iconst 0, 1) := by decide +kernel
theorem dX7_refreshAround_6 : decode cX7_refreshAround 6 = .ok (.istore_n 2, 1) := by decide +kernel
theorem dX7_refreshAround_7 : decode cX7_refreshAround 7 = .ok (.iload_n 2, 1) := by decide +kernel
theorem dX7_refreshAround_8 : decode cX7_refreshAround 8 = .ok (.iconst 4, 1) := by decide +kernel
theorem dX7_refreshAround_9 : decode cX7_refreshAround 9 = .ok (.if_icmp .ge 30, 3) := by decide +kernel
theorem dX7_refreshAround_12 : decode cX7_refreshAround 12 = .ok (.getstatic 63, 3) := by decide +kernel
theorem dX7_refreshAround_15 : decode cX7_refreshAround 15 = .ok (.iload_n 1, 1) := by decide +kernel
theorem dX7_refreshAround_16 : decode cX7_refreshAround 16 = .ok (.iconst 4, 1) := by decide +kernel
theorem dX7_refreshAround_17 : decode cX7_refreshAround 17 = .ok (.imul, 1) := by decide +kernel
theorem dX7_refreshAround_18 : decode cX7_refreshAround 18 = .ok (.iload_n 2, 1) := by decide +kernel
theorem dX7_refreshAround_19 : decode cX7_refreshAround 19 = .ok (.iadd, 1) := by decide +kernel
theorem dX7_refreshAround_20 : decode cX7_refreshAround 20 = .ok (.iaload, 1) := by decide +kernel
theorem dX7_refreshAround_21 : decode cX7_refreshAround 21 = .ok (.istore_n 3, 1) := by decide +kernel
theorem dX7_refreshAround_22 : decode cX7_refreshAround 22 = .ok (.iload_n 3, 1) := by decide +kernel
theorem dX7_refreshAround_23 : decode cX7_refreshAround 23 = .ok (.bipush 25, 2) := by decide +kernel
theorem dX7_refreshAround_25 : decode cX7_refreshAround 25 = .ok (.if_icmp .eq 8, 3) := by decide +kernel
theorem dX7_refreshAround_28 : decode cX7_refreshAround 28 = .ok (.aload_n 0, 1) := by decide +kernel
theorem dX7_refreshAround_29 : decode cX7_refreshAround 29 = .ok (.iload_n 3, 1) := by decide +kernel
theorem dX7_refreshAround_30 : decode cX7_refreshAround 30 = .ok (.invokevirtual 57, 3) := by decide +kernel
theorem dX7_refreshAround_33 : decode cX7_refreshAround 33 = .ok (.iinc 2 1, 3) := by decide +kernel
theorem dX7_refreshAround_36 : decode cX7_refreshAround 36 = .ok (.goto (-29), 3) := by decide +kernel
theorem dX7_refreshAround_39 : decode cX7_refreshAround 39 = .ok (.return_, 1) := by decide +kernel
theorem dX7_refresh_0 : decode cX7_refresh 0 = .ok (.aload_n 0, 1) := by decide +kernel
theorem dX7_refresh_1 : decode cX7_refresh 1 = .ok (.iload_n 1, 1) := by decide +kernel
theorem dX7_refresh_2 : decode cX7_refresh 2 = .ok (.invokevirtual 60, 3) := by decide +kernel
theorem dX7_refresh_5 : decode cX7_refresh 5 = .ok (.aload_n 0, 1) := by decide +kernel
theorem dX7_refresh_6 : decode cX7_refresh 6 = .ok (.getfield 12, 3) := by decide +kernel
theorem dX7_refresh_9 : decode cX7_refresh 9 = .ok (.iload_n 1, 1) := by decide +kernel
theorem dX7_refresh_10 : decode cX7_refresh 10 = .ok (.invokevirtual 66, 3) := by decide +kernel
theorem dX7_refresh_13 : decode cX7_refresh 13 = .ok (.aload_n 0, 1) := by decide +kernel
theorem dX7_refresh_14 : decode cX7_refresh 14 = .ok (.getfield 12, 3) := by decide +kernel
theorem dX7_refresh_17 : decode cX7_refresh 17 = .ok (.getfield 69, 3) := by decide +kernel
theorem dX7_refresh_20 : decode cX7_refresh 20 = .ok (.if_icmp .lt 8, 3) := by decide +kernel
theorem dX7_refresh_23 : decode cX7_refresh 23 = .ok (.aload_n 0, 1) := by decide +kernel
theorem dX7_refresh_24 : decode cX7_refresh 24 = .ok (.iload_n 1, 1) := by decide +kernel
theorem dX7_refresh_25 : decode cX7_refresh 25 = .ok (.invokevirtual 72, 3) := by decide +kernel
theorem dX7_refresh_28 : decode cX7_refresh 28 = .ok (.return_, 1) := by decide +kernel
theorem dX7_remove_0 : decode cX7_remove 0 = .ok (.iconst 0, 1) := by decide +kernel
theorem dX7_remove_1 : decode cX7_remove 1 = .ok (.istore_n 2, 1) := by decide +kernel
theorem dX7_remove_2 : decode cX7_remove 2 = .ok (.iconst 0, 1) := by decide +kernel
theorem dX7_remove_3 : decode cX7_remove 3 = .ok (.istore_n 3, 1) := by decide +kernel
theorem dX7_remove_4 : decode cX7_remove 4 = .ok (.iload_n 3, 1) := by decide +kernel
theorem dX7_remove_5 : decode cX7_remove 5 = .ok (.aload_n 0, 1) := by decide +kernel
theorem dX7_remove_6 : decode cX7_remove 6 = .ok (.getfield 34, 3) := by decide +kernel
theorem dX7_remove_9 : decode cX7_remove 9 = .ok (.if_icmp .ge 34, 3) := by decide +kernel
theorem dX7_remove_12 : decode cX7_remove 12 = .ok (.aload_n 0, 1) := by decide +kernel
theorem dX7_remove_13 : decode cX7_remove 13 = .ok (.getfield 18, 3) := by decide +kernel
theorem dX7_remove_16 : decode cX7_remove 16 = .ok (.iload_n 3, 1) := by decide +kernel
theorem dX7_remove_17 : decode cX7_remove 17 = .ok (.iaload, 1) := by decide +kernel
theorem dX7_remove_18 : decode cX7_remove 18 = .ok (.iload_n 1, 1) := by decide +kernel
theorem dX7_remove_19 : decode cX7_remove 19 = .ok (.if_icmp .eq 18, 3) := by decide +kernel
theorem dX7_remove_22 : decode cX7_remove 22 = .ok (.aload_n 0, 1) := by decide +kernel
theorem dX7_remove_23 : decode cX7_remove 23 = .ok (.getfield 18, 3) := by decide +kernel
theorem dX7_remove_26 : decode cX7_remove 26 = .ok (.iload_n 2, 1) := by decide +kernel
theorem dX7_remove_27 : decode cX7_remove 27 = .ok (.aload_n 0, 1) := by decide +kernel
theorem dX7_remove_28 : decode cX7_remove 28 = .ok (.getfield 18, 3) := by decide +kernel
theorem dX7_remove_31 : decode cX7_remove 31 = .ok (.iload_n 3, 1) := by decide +kernel
theorem dX7_remove_32 : decode cX7_remove 32 = .ok (.iaload, 1) := by decide +kernel
theorem dX7_remove_33 : decode cX7_remove 33 = .ok (.iastore, 1) := by decide +kernel
theorem dX7_remove_34 : decode cX7_remove 34 = .ok (.iinc 2 1, 3) := by decide +kernel
theorem dX7_remove_37 : decode cX7_remove 37 = .ok (.iinc 3 1, 3) := by decide +kernel
theorem dX7_remove_40 : decode cX7_remove 40 = .ok (.goto (-36), 3) := by decide +kernel
theorem dX7_remove_43 : decode cX7_remove 43 = .ok (.aload_n 0, 1) := by decide +kernel
theorem dX7_remove_44 : decode cX7_remove 44 = .ok (.iload_n 2, 1) := by decide +kernel
theorem dX7_remove_45 : decode cX7_remove 45 = .ok (.putfield 34, 3) := by decide +kernel
theorem dX7_remove_48 : decode cX7_remove 48 = .ok (.return_, 1) := by decide +kernel
theorem dX7_insert_0 : decode cX7_insert 0 = .ok (.aload_n 0, 1) := by decide +kernel
theorem dX7_insert_1 : decode cX7_insert 1 = .ok (.getfield 34, 3) := by decide +kernel
theorem dX7_insert_4 : decode cX7_insert 4 = .ok (.istore_n 2, 1) := by decide +kernel
theorem dX7_insert_5 : decode cX7_insert 5 = .ok (.iload_n 2, 1) := by decide +kernel
theorem dX7_insert_6 : decode cX7_insert 6 = .ok (.ifCond .le 39, 3) := by decide +kernel
theorem dX7_insert_9 : decode cX7_insert 9 = .ok (.aload_n 0, 1) := by decide +kernel
theorem dX7_insert_10 : decode cX7_insert 10 = .ok (.iload_n 1, 1) := by decide +kernel
theorem dX7_insert_11 : decode cX7_insert 11 = .ok (.aload_n 0, 1) := by decide +kernel
theorem dX7_insert_12 : decode cX7_insert 12 = .ok (.getfield 18, 3) := by decide +kernel
theorem dX7_insert_15 : decode cX7_insert 15 = .ok (.iload_n 2, 1) := by decide +kernel
theorem dX7_insert_16 : decode cX7_insert 16 = .ok (.iconst 1, 1) := by decide +kernel
theorem dX7_insert_17 : decode cX7_insert 17 = .ok (.isub, 1) := by decide +kernel
theorem dX7_insert_18 : decode cX7_insert 18 = .ok (.iaload, 1) := by decide +kernel
theorem dX7_insert_19 : decode cX7_insert 19 = .ok (.invokevirtual 75, 3) := by decide +kernel
theorem dX7_insert_22 : decode cX7_insert 22 = .ok (.ifCond .eq 23, 3) := by decide +kernel
theorem dX7_insert_25 : decode cX7_insert 25 = .ok (.aload_n 0, 1) := by decide +kernel
theorem dX7_insert_26 : decode cX7_insert 26 = .ok (.getfield 18, 3) := by decide +kernel
theorem dX7_insert_29 : decode cX7_insert 29 = .ok (.iload_n 2, 1) := by decide +kernel
theorem dX7_insert_30 : decode cX7_insert 30 = .ok (.aload_n 0, 1) := by decide +kernel
theorem dX7_insert_31 : decode cX7_insert 31 = .ok (.getfield 18, 3) := by decide +kernel
theorem dX7_insert_34 : decode cX7_insert 34 = .ok (.iload_n 2, 1) := by decide +kernel
theorem dX7_insert_35 : decode cX7_insert 35 = .ok (.iconst 1, 1) := by decide +kernel
theorem dX7_insert_36 : decode cX7_insert 36 = .ok (.isub, 1) := by decide +kernel
theorem dX7_insert_37 : decode cX7_insert 37 = .ok (.iaload, 1) := by decide +kernel
theorem dX7_insert_38 : decode cX7_insert 38 = .ok (.iastore, 1) := by decide +kernel
theorem dX7_insert_39 : decode cX7_insert 39 = .ok (.iinc 2 (-1), 3) := by decide +kernel
theorem dX7_insert_42 : decode cX7_insert 42 = .ok (.goto (-37), 3) := by decide +kernel
theorem dX7_insert_45 : decode cX7_insert 45 = .ok (.aload_n 0, 1) := by decide +kernel
theorem dX7_insert_46 : decode cX7_insert 46 = .ok (.getfield 18, 3) := by decide +kernel
theorem dX7_insert_49 : decode cX7_insert 49 = .ok (.iload_n 2, 1) := by decide +kernel
theorem dX7_insert_50 : decode cX7_insert 50 = .ok (.iload_n 1, 1) := by decide +kernel
theorem dX7_insert_51 : decode cX7_insert 51 = .ok (.iastore, 1) := by decide +kernel
theorem dX7_insert_52 : decode cX7_insert 52 = .ok (.aload_n 0, 1) := by decide +kernel
theorem dX7_insert_53 : decode cX7_insert 53 = .ok (.dup, 1) := by decide +kernel
theorem dX7_insert_54 : decode cX7_insert 54 = .ok (.getfield 34, 3) := by decide +kernel
theorem dX7_insert_57 : decode cX7_insert 57 = .ok (.iconst 1, 1) := by decide +kernel
theorem dX7_insert_58 : decode cX7_insert 58 = .ok (.iadd, 1) := by decide +kernel
theorem dX7_insert_59 : decode cX7_insert 59 = .ok (.putfield 34, 3) := by decide +kernel
theorem dX7_insert_62 : decode cX7_insert 62 = .ok (.return_, 1) := by decide +kernel
theorem dX7_comesBefore_0 : decode cX7_comesBefore 0 = .ok (.aload_n 0, 1) := by decide +kernel
theorem dX7_comesBefore_1 : decode cX7_comesBefore 1 = .ok (.getfield 12, 3) := by decide +kernel
theorem dX7_comesBefore_4 : decode cX7_comesBefore 4 = .ok (.getfield 79, 3) := by decide +kernel
theorem dX7_comesBefore_7 : decode cX7_comesBefore 7 = .ok (.iload_n 1, 1) := by decide +kernel
theorem dX7_comesBefore_8 : decode cX7_comesBefore 8 = .ok (.iaload, 1) := by decide +kernel
theorem dX7_comesBefore_9 : decode cX7_comesBefore 9 = .ok (.aload_n 0, 1) := by decide +kernel
theorem dX7_comesBefore_10 : decode cX7_comesBefore 10 = .ok (.getfield 12, 3) := by decide +kernel
theorem dX7_comesBefore_13 : decode cX7_comesBefore 13 = .ok (.getfield 79, 3) := by decide +kernel
theorem dX7_comesBefore_16 : decode cX7_comesBefore 16 = .ok (.iload_n 2, 1) := by decide +kernel
theorem dX7_comesBefore_17 : decode cX7_comesBefore 17 = .ok (.iaload, 1) := by decide +kernel
theorem dX7_comesBefore_18 : decode cX7_comesBefore 18 = .ok (.isub, 1) := by decide +kernel
theorem dX7_comesBefore_19 : decode cX7_comesBefore 19 = .ok (.istore_n 3, 1) := by decide +kernel
theorem dX7_comesBefore_20 : decode cX7_comesBefore 20 = .ok (.iload_n 3, 1) := by decide +kernel
theorem dX7_comesBefore_21 : decode cX7_comesBefore 21 = .ok (.ifCond .gt 12, 3) := by decide +kernel
theorem dX7_comesBefore_24 : decode cX7_comesBefore 24 = .ok (.iload_n 3, 1) := by decide +kernel
theorem dX7_comesBefore_25 : decode cX7_comesBefore 25 = .ok (.ifCond .ne 12, 3) := by decide +kernel
theorem dX7_comesBefore_28 : decode cX7_comesBefore 28 = .ok (.iload_n 1, 1) := by decide +kernel
theorem dX7_comesBefore_29 : decode cX7_comesBefore 29 = .ok (.iload_n 2, 1) := by decide +kernel
theorem dX7_comesBefore_30 : decode cX7_comesBefore 30 = .ok (.if_icmp .ge 7, 3) := by decide +kernel
theorem dX7_comesBefore_33 : decode cX7_comesBefore 33 = .ok (.iconst 1, 1) := by decide +kernel
theorem dX7_comesBefore_34 : decode cX7_comesBefore 34 = .ok (.goto 4, 3) := by decide +kernel
theorem dX7_comesBefore_37 : decode cX7_comesBefore 37 = .ok (.iconst 0, 1) := by decide +kernel
theorem dX7_comesBefore_38 : decode cX7_comesBefore 38 = .ok (.ireturn, 1) := by decide +kernel
theorem dX8_init_0 : decode cX8_init 0 = .ok (.aload_n 0, 1) := by decide +kernel
theorem dX8_init_1 : decode cX8_init 1 = .ok (.invokespecial 1, 3) := by decide +kernel
theorem dX8_init_4 : decode cX8_init 4 = .ok (.aload_n 0, 1) := by decide +kernel
theorem dX8_init_5 : decode cX8_init 5 = .ok (.new 7, 3) := by decide +kernel
theorem dX8_init_8 : decode cX8_init 8 = .ok (.dup, 1) := by decide +kernel
theorem dX8_init_9 : decode cX8_init 9 = .ok (.invokespecial 9, 3) := by decide +kernel
theorem dX8_init_12 : decode cX8_init 12 = .ok (.putfield 10, 3) := by decide +kernel
theorem dX8_init_15 : decode cX8_init 15 = .ok (.aload_n 0, 1) := by decide +kernel
theorem dX8_init_16 : decode cX8_init 16 = .ok (.new 7, 3) := by decide +kernel
theorem dX8_init_19 : decode cX8_init 19 = .ok (.dup, 1) := by decide +kernel
theorem dX8_init_20 : decode cX8_init 20 = .ok (.invokespecial 9, 3) := by decide +kernel
theorem dX8_init_23 : decode cX8_init 23 = .ok (.putfield 16, 3) := by decide +kernel
theorem dX8_init_26 : decode cX8_init 26 = .ok (.aload_n 0, 1) := by decide +kernel
theorem dX8_init_27 : decode cX8_init 27 = .ok (.new 7, 3) := by decide +kernel
theorem dX8_init_30 : decode cX8_init 30 = .ok (.dup, 1) := by decide +kernel
theorem dX8_init_31 : decode cX8_init 31 = .ok (.invokespecial 9, 3) := by decide +kernel
theorem dX8_init_34 : decode cX8_init 34 = .ok (.putfield 19, 3) := by decide +kernel
theorem dX8_init_37 : decode cX8_init 37 = .ok (.aload_n 0, 1) := by decide +kernel
theorem dX8_init_38 : decode cX8_init 38 = .ok (.bipush 8, 2) := by decide +kernel
theorem dX8_init_40 : decode cX8_init 40 = .ok (.anewarray 7, 3) := by decide +kernel
theorem dX8_init_43 : decode cX8_init 43 = .ok (.putfield 22, 3) := by decide +kernel
theorem dX8_init_46 : decode cX8_init 46 = .ok (.aload_n 0, 1) := by decide +kernel
theorem dX8_init_47 : decode cX8_init 47 = .ok (.new 26, 3) := by decide +kernel
theorem dX8_init_50 : decode cX8_init 50 = .ok (.dup, 1) := by decide +kernel
theorem dX8_init_51 : decode cX8_init 51 = .ok (.invokespecial 28, 3) := by decide +kernel
theorem dX8_init_54 : decode cX8_init 54 = .ok (.putfield 29, 3) := by decide +kernel
theorem dX8_init_57 : decode cX8_init 57 = .ok (.aload_n 0, 1) := by decide +kernel
theorem dX8_init_58 : decode cX8_init 58 = .ok (.new 33, 3) := by decide +kernel
theorem dX8_init_61 : decode cX8_init 61 = .ok (.dup, 1) := by decide +kernel
theorem dX8_init_62 : decode cX8_init 62 = .ok (.invokespecial 35, 3) := by decide +kernel
theorem dX8_init_65 : decode cX8_init 65 = .ok (.putfield 36, 3) := by decide +kernel
theorem dX8_init_68 : decode cX8_init 68 = .ok (.aload_n 0, 1) := by decide +kernel
theorem dX8_init_69 : decode cX8_init 69 = .ok (.iconst (-1), 1) := by decide +kernel
theorem dX8_init_70 : decode cX8_init 70 = .ok (.putfield 40, 3) := by decide +kernel
theorem dX8_init_73 : decode cX8_init 73 = .ok (.aload_n 0, 1) := by decide +kernel
theorem dX8_init_74 : decode cX8_init 74 = .ok (.iconst (-1), 1) := by decide +kernel
theorem dX8_init_75 : decode cX8_init 75 = .ok (.putfield 44, 3) := by decide +kernel
theorem dX8_init_78 : decode cX8_init 78 = .ok (.aload_n 0, 1) := by decide +kernel
theorem dX8_init_79 : decode cX8_init 79 = .ok (.new 47, 3) := by decide +kernel
theorem dX8_init_82 : decode cX8_init 82 = .ok (.dup, 1) := by decide +kernel
theorem dX8_init_83 : decode cX8_init 83 = .ok (.invokespecial 49, 3) := by decide +kernel
theorem dX8_init_86 : decode cX8_init 86 = .ok (.putfield 50, 3) := by decide +kernel
theorem dX8_init_89 : decode cX8_init 89 = .ok (.iconst 0, 1) := by decide +kernel
theorem dX8_init_90 : decode cX8_init 90 = .ok (.istore_n 1, 1) := by decide +kernel
theorem dX8_init_91 : decode cX8_init 91 = .ok (.iload_n 1, 1) := by decide +kernel
theorem dX8_init_92 : decode cX8_init 92 = .ok (.bipush 8, 2) := by decide +kernel
theorem dX8_init_94 : decode cX8_init 94 = .ok (.if_icmp .ge 22, 3) := by decide +kernel
theorem dX8_init_97 : decode cX8_init 97 = .ok (.aload_n 0, 1) := by decide +kernel
theorem dX8_init_98 : decode cX8_init 98 = .ok (.getfield 22, 3) := by decide +kernel
theorem dX8_init_101 : decode cX8_init 101 = .ok (.iload_n 1, 1) := by decide +kernel
theorem dX8_init_102 : decode cX8_init 102 = .ok (.new 7, 3) := by decide +kernel
theorem dX8_init_105 : decode cX8_init 105 = .ok (.dup, 1) := by decide +kernel
theorem dX8_init_106 : decode cX8_init 106 = .ok (.invokespecial 9, 3) := by decide +kernel
theorem dX8_init_109 : decode cX8_init 109 = .ok (.aastore, 1) := by decide +kernel
theorem dX8_init_110 : decode cX8_init 110 = .ok (.iinc 1 1, 3) := by decide +kernel
theorem dX8_init_113 : decode cX8_init 113 = .ok (.goto (-22), 3) := by decide +kernel
theorem dX8_init_116 : decode cX8_init 116 = .ok (.return_, 1) := by decide +kernel
theorem dX8_addPlayer_0 : decode cX8_addPlayer 0 = .ok (.aload_n 0, 1) := by decide +kernel
theorem dX8_addPlayer_1 : decode cX8_addPlayer 1 = .ok (.getfield 10, 3) := by decide +kernel
theorem dX8_addPlayer_4 : decode cX8_addPlayer 4 = .ok (.iload_n 1, 1) := by decide +kernel
theorem dX8_addPlayer_5 : decode cX8_addPlayer 5 = .ok (.invokevirtual 54, 3) := by decide +kernel
theorem dX8_addPlayer_8 : decode cX8_addPlayer 8 = .ok (.invokestatic 58, 3) := by decide +kernel
theorem dX8_addPlayer_11 : decode cX8_addPlayer 11 = .ok (.aload_n 0, 1) := by decide +kernel
theorem dX8_addPlayer_12 : decode cX8_addPlayer 12 = .ok (.aload_n 0, 1) := by decide +kernel
theorem dX8_addPlayer_13 : decode cX8_addPlayer 13 = .ok (.getfield 10, 3) := by decide +kernel
theorem dX8_addPlayer_16 : decode cX8_addPlayer 16 = .ok (.invokevirtual 62, 3) := by decide +kernel
theorem dX8_addPlayer_19 : decode cX8_addPlayer 19 = .ok (.aload_n 0, 1) := by decide +kernel
theorem dX8_addPlayer_20 : decode cX8_addPlayer 20 = .ok (.getfield 10, 3) := by decide +kernel
theorem dX8_addPlayer_23 : decode cX8_addPlayer 23 = .ok (.iload_n 1, 1) := by decide +kernel
theorem dX8_addPlayer_24 : decode cX8_addPlayer 24 = .ok (.invokevirtual 66, 3) := by decide +kernel
theorem dX8_addPlayer_27 : decode cX8_addPlayer 27 = .ok (.ireturn, 1) := by decide +kernel
theorem dX8_drop_0 : decode cX8_drop 0 = .ok (.aload_n 0, 1) := by decide +kernel
theorem dX8_drop_1 : decode cX8_drop 1 = .ok (.getfield 10, 3) := by decide +kernel
theorem dX8_drop_4 : decode cX8_drop 4 = .ok (.iload_n 1, 1) := by decide +kernel
theorem dX8_drop_5 : decode cX8_drop 5 = .ok (.iload_n 2, 1) := by decide +kernel
theorem dX8_drop_6 : decode cX8_drop 6 = .ok (.iload_n 3, 1) := by decide +kernel
theorem dX8_drop_7 : decode cX8_drop 7 = .ok (.invokevirtual 70, 3) := by decide +kernel
theorem dX8_drop_10 : decode cX8_drop 10 = .ok (.invokestatic 58, 3) := by decide +kernel
theorem dX8_drop_13 : decode cX8_drop 13 = .ok (.aload_n 0, 1) := by decide +kernel
theorem dX8_drop_14 : decode cX8_drop 14 = .ok (.aload_n 0, 1) := by decide +kernel
theorem dX8_drop_15 : decode cX8_drop 15 = .ok (.getfield 10, 3) := by decide +kernel
theorem dX8_drop_18 : decode cX8_drop 18 = .ok (.invokevirtual 62, 3) := by decide +kernel
theorem dX8_drop_21 : decode cX8_drop 21 = .ok (.aload_n 0, 1) := by decide +kernel
theorem dX8_drop_22 : decode cX8_drop 22 = .ok (.getfield 10, 3) := by decide +kernel
theorem dX8_drop_25 : decode cX8_drop 25 = .ok (.iload_n 1, 1) := by decide +kernel
theorem dX8_drop_26 : decode cX8_drop 26 = .ok (.iload_n 2, 1) := by decide +kernel
theorem dX8_drop_27 : decode cX8_drop 27 = .ok (.iload_n 3, 1) := by decide +kernel
theorem dX8_drop_28 : decode cX8_drop 28 = .ok (.invokevirtual 74, 3) := by decide +kernel
theorem dX8_drop_31 : decode cX8_drop 31 = .ok (.ireturn, 1) := by decide +kernel
theorem dX8_pile_0 : decode cX8_pile 0 = .ok (.aload_n 0, 1) := by decide +kernel
theorem dX8_pile_1 : decode cX8_pile 1 = .ok (.getfield 10, 3) := by decide +kernel
theorem dX8_pile_4 : decode cX8_pile 4 = .ok (.iload_n 1, 1) := by decide +kernel
theorem dX8_pile_5 : decode cX8_pile 5 = .ok (.iload_n 2, 1) := by decide +kernel
theorem dX8_pile_6 : decode cX8_pile 6 = .ok (.invokevirtual 78, 3) := by decide +kernel
theorem dX8_pile_9 : decode cX8_pile 9 = .ok (.invokestatic 58, 3) := by decide +kernel
theorem dX8_pile_12 : decode cX8_pile 12 = .ok (.aload_n 0, 1) := by decide +kernel
theorem dX8_pile_13 : decode cX8_pile 13 = .ok (.aload_n 0, 1) := by decide +kernel
theorem dX8_pile_14 : decode cX8_pile 14 = .ok (.getfield 10, 3) := by decide +kernel
theorem dX8_pile_17 : decode cX8_pile 17 = .ok (.invokevirtual 62, 3) := by decide +kernel
theorem dX8_pile_20 : decode cX8_pile 20 = .ok (.aload_n 0, 1) := by decide +kernel
theorem dX8_pile_21 : decode cX8_pile 21 = .ok (.getfield 10, 3) := by decide +kernel
theorem dX8_pile_24 : decode cX8_pile 24 = .ok (.iload_n 1, 1) := by decide +kernel
theorem dX8_pile_25 : decode cX8_pile 25 = .ok (.iload_n 2, 1) := by decide +kernel
theorem dX8_pile_26 : decode cX8_pile 26 = .ok (.invokevirtual 82, 3) := by decide +kernel
theorem dX8_pile_29 : decode cX8_pile 29 = .ok (.ireturn, 1) := by decide +kernel
theorem dX8_take_0 : decode cX8_take 0 = .ok (.aload_n 0, 1) := by decide +kernel
theorem dX8_take_1 : decode cX8_take 1 = .ok (.getfield 10, 3) := by decide +kernel
theorem dX8_take_4 : decode cX8_take 4 = .ok (.iload_n 1, 1) := by decide +kernel
theorem dX8_take_5 : decode cX8_take 5 = .ok (.iload_n 2, 1) := by decide +kernel
theorem dX8_take_6 : decode cX8_take 6 = .ok (.invokevirtual 86, 3) := by decide +kernel
theorem dX8_take_9 : decode cX8_take 9 = .ok (.invokestatic 58, 3) := by decide +kernel
theorem dX8_take_12 : decode cX8_take 12 = .ok (.aload_n 0, 1) := by decide +kernel
theorem dX8_take_13 : decode cX8_take 13 = .ok (.aload_n 0, 1) := by decide +kernel
theorem dX8_take_14 : decode cX8_take 14 = .ok (.getfield 10, 3) := by decide +kernel
theorem dX8_take_17 : decode cX8_take 17 = .ok (.invokevirtual 62, 3) := by decide +kernel
theorem dX8_take_20 : decode cX8_take 20 = .ok (.aload_n 0, 1) := by decide +kernel
theorem dX8_take_21 : decode cX8_take 21 = .ok (.getfield 10, 3) := by decide +kernel
theorem dX8_take_24 : decode cX8_take 24 = .ok (.iload_n 1, 1) := by decide +kernel
theorem dX8_take_25 : decode cX8_take 25 = .ok (.iload_n 2, 1) := by decide +kernel
theorem dX8_take_26 : decode cX8_take 26 = .ok (.invokevirtual 89, 3) := by decide +kernel
theorem dX8_take_29 : decode cX8_take 29 = .ok (.ireturn, 1) := by decide +kernel
theorem dX8_skip_0 : decode cX8_skip 0 = .ok (.aload_n 0, 1) := by decide +kernel
theorem dX8_skip_1 : decode cX8_skip 1 = .ok (.aload_n 0, 1) := by decide +kernel
theorem dX8_skip_2 : decode cX8_skip 2 = .ok (.getfield 10, 3) := by decide +kernel
theorem dX8_skip_5 : decode cX8_skip 5 = .ok (.invokevirtual 62, 3) := by decide +kernel
theorem dX8_skip_8 : decode cX8_skip 8 = .ok (.aload_n 0, 1) := by decide +kernel
theorem dX8_skip_9 : decode cX8_skip 9 = .ok (.getfield 10, 3) := by decide +kernel
theorem dX8_skip_12 : decode cX8_skip 12 = .ok (.iconst (-1), 1) := by decide +kernel
theorem dX8_skip_13 : decode cX8_skip 13 = .ok (.invokevirtual 92, 3) := by decide +kernel
theorem dX8_skip_16 : decode cX8_skip 16 = .ok (.aload_n 0, 1) := by decide +kernel
theorem dX8_skip_17 : decode cX8_skip 17 = .ok (.getfield 10, 3) := by decide +kernel
theorem dX8_skip_20 : decode cX8_skip 20 = .ok (.invokevirtual 96, 3) := by decide +kernel
theorem dX8_skip_23 : decode cX8_skip 23 = .ok (.ireturn, 1) := by decide +kernel
theorem dX8_playerCount_0 : decode cX8_playerCount 0 = .ok (.aload_n 0, 1) := by decide +kernel
theorem dX8_playerCount_1 : decode cX8_playerCount 1 = .ok (.getfield 10, 3) := by decide +kernel
theorem dX8_playerCount_4 : decode cX8_playerCount 4 = .ok (.getfield 100, 3) := by decide +kernel
theorem dX8_playerCount_7 : decode cX8_playerCount 7 = .ok (.ireturn, 1) := by decide +kernel
theorem dX8_hand_0 : decode cX8_hand 0 = .ok (.aload_n 0, 1) := by decide +kernel
theorem dX8_hand_1 : decode cX8_hand 1 = .ok (.iload_n 1, 1) := by decide +kernel
theorem dX8_hand_2 : decode cX8_hand 2 = .ok (.invokevirtual 103, 3) := by decide +kernel
theorem dX8_hand_5 : decode cX8_hand 5 = .ok (.aload_n 0, 1) := by decide +kernel
theorem dX8_hand_6 : decode cX8_hand 6 = .ok (.getfield 10, 3) := by decide +kernel
theorem dX8_hand_9 : decode cX8_hand 9 = .ok (.getfield 106, 3) := by decide +kernel
theorem dX8_hand_12 : decode cX8_hand 12 = .ok (.iload_n 1, 1) := by decide +kernel
theorem dX8_hand_13 : decode cX8_hand 13 = .ok (.iaload, 1) := by decide +kernel
theorem dX8_hand_14 : decode cX8_hand 14 = .ok (.ireturn, 1) := by decide +kernel
theorem dX8_rest_0 : decode cX8_rest 0 = .ok (.aload_n 0, 1) := by decide +kernel
theorem dX8_rest_1 : decode cX8_rest 1 = .ok (.iload_n 1, 1) := by decide +kernel
theorem dX8_rest_2 : decode cX8_rest 2 = .ok (.invokevirtual 103, 3) := by decide +kernel
theorem dX8_rest_5 : decode cX8_rest 5 = .ok (.aload_n 0, 1) := by decide +kernel
theorem dX8_rest_6 : decode cX8_rest 6 = .ok (.getfield 10, 3) := by decide +kernel
theorem dX8_rest_9 : decode cX8_rest 9 = .ok (.getfield 110, 3) := by decide +kernel
theorem dX8_rest_12 : decode cX8_rest 12 = .ok (.iload_n 1, 1) := by decide +kernel
theorem dX8_rest_13 : decode cX8_rest 13 = .ok (.iaload, 1) := by decide +kernel
theorem dX8_rest_14 : decode cX8_rest 14 = .ok (.ireturn, 1) := by decide +kernel
theorem dX8_setSlope_0 : decode cX8_setSlope 0 = .ok (.aload_n 0, 1) := by decide +kernel
theorem dX8_setSlope_1 : decode cX8_setSlope 1 = .ok (.getfield 10, 3) := by decide +kernel
theorem dX8_setSlope_4 : decode cX8_setSlope 4 = .ok (.iload_n 1, 1) := by decide +kernel
theorem dX8_setSlope_5 : decode cX8_setSlope 5 = .ok (.invokevirtual 113, 3) := by decide +kernel
theorem dX8_setSlope_8 : decode cX8_setSlope 8 = .ok (.invokestatic 58, 3) := by decide +kernel
theorem dX8_setSlope_11 : decode cX8_setSlope 11 = .ok (.aload_n 0, 1) := by decide +kernel
theorem dX8_setSlope_12 : decode cX8_setSlope 12 = .ok (.aload_n 0, 1) := by decide +kernel
theorem dX8_setSlope_13 : decode cX8_setSlope 13 = .ok (.getfield 10, 3) := by decide +kernel
theorem dX8_setSlope_16 : decode cX8_setSlope 16 = .ok (.invokevirtual 62, 3) := by decide +kernel
theorem dX8_setSlope_19 : decode cX8_setSlope 19 = .ok (.aload_n 0, 1) := by decide +kernel
theorem dX8_setSlope_20 : decode cX8_setSlope 20 = .ok (.getfield 10, 3) := by decide +kernel
theorem dX8_setSlope_23 : decode cX8_setSlope 23 = .ok (.iload_n 1, 1) := by decide +kernel
theorem dX8_setSlope_24 : decode cX8_setSlope 24 = .ok (.invokevirtual 116, 3) := by decide +kernel
theorem dX8_setSlope_27 : decode cX8_setSlope 27 = .ok (.ireturn, 1) := by decide +kernel
theorem dX8_setBorder_0 : decode cX8_setBorder 0 = .ok (.aload_n 0, 1) := by decide +kernel
theorem dX8_setBorder_1 : decode cX8_setBorder 1 = .ok (.aload_n 0, 1) := by decide +kernel
theorem dX8_setBorder_2 : decode cX8_setBorder 2 = .ok (.getfield 10, 3) := by decide +kernel
theorem dX8_setBorder_5 : decode cX8_setBorder 5 = .ok (.invokevirtual 62, 3) := by decide +kernel
theorem dX8_setBorder_8 : decode cX8_setBorder 8 = .ok (.aload_n 0, 1) := by decide +kernel
theorem dX8_setBorder_9 : decode cX8_setBorder 9 = .ok (.getfield 10, 3) := by decide +kernel
theorem dX8_setBorder_12 : decode cX8_setBorder 12 = .ok (.getfield 119, 3) := by decide +kernel
theorem dX8_setBorder_15 : decode cX8_setBorder 15 = .ok (.getfield 123, 3) := by decide +kernel
theorem dX8_setBorder_18 : decode cX8_setBorder 18 = .ok (.istore_n 2, 1) := by decide +kernel
theorem dX8_setBorder_19 : decode cX8_setBorder 19 = .ok (.aload_n 0, 1) := by decide +kernel
theorem dX8_setBorder_20 : decode cX8_setBorder 20 = .ok (.getfield 10, 3) := by decide +kernel
theorem dX8_setBorder_23 : decode cX8_setBorder 23 = .ok (.iload_n 1, 1) := by decide +kernel
theorem dX8_setBorder_24 : decode cX8_setBorder 24 = .ok (.invokevirtual 129, 3) := by decide +kernel
theorem dX8_setBorder_27 : decode cX8_setBorder 27 = .ok (.iload_n 2, 1) := by decide +kernel
theorem dX8_setBorder_28 : decode cX8_setBorder 28 = .ok (.ireturn, 1) := by decide +kernel
theorem dX8_criticalSlope_0 : decode cX8_criticalSlope 0 = .ok (.aload_n 0, 1) := by decide +kernel
theorem dX8_criticalSlope_1 : decode cX8_criticalSlope 1 = .ok (.getfield 10, 3) := by decide +kernel
theorem dX8_criticalSlope_4 : decode cX8_criticalSlope 4 = .ok (.getfield 119, 3) := by decide +kernel
theorem dX8_criticalSlope_7 : decode cX8_criticalSlope 7 = .ok (.getfield 133, 3) := by decide +kernel
theorem dX8_criticalSlope_10 : decode cX8_criticalSlope 10 = .ok (.ireturn, 1) := by decide +kernel
theorem dX8_isBorderOpen_0 : decode cX8_isBorderOpen 0 = .ok (.aload_n 0, 1) := by decide +kernel
theorem dX8_isBorderOpen_1 : decode cX8_isBorderOpen 1 = .ok (.getfield 10, 3) := by decide +kernel
theorem dX8_isBorderOpen_4 : decode cX8_isBorderOpen 4 = .ok (.getfield 119, 3) := by decide +kernel
theorem dX8_isBorderOpen_7 : decode cX8_isBorderOpen 7 = .ok (.getfield 123, 3) := by decide +kernel
theorem dX8_isBorderOpen_10 : decode cX8_isBorderOpen 10 = .ok (.ireturn, 1) := by decide +kernel
theorem dX8_height_0 : decode cX8_height 0 = .ok (.iload_n 1, 1) := by decide +kernel
theorem dX8_height_1 : decode cX8_height 1 = .ok (.invokestatic 136, 3) := by decide +kernel
theorem dX8_height_4 : decode cX8_height 4 = .ok (.aload_n 0, 1) := by decide +kernel
theorem dX8_height_5 : decode cX8_height 5 = .ok (.getfield 10, 3) := by decide +kernel
theorem dX8_height_8 : decode cX8_height 8 = .ok (.getfield 119, 3) := by decide +kernel
theorem dX8_height_11 : decode cX8_height 11 = .ok (.getfield 139, 3) := by decide +kernel
theorem dX8_height_14 : decode cX8_height 14 = .ok (.iload_n 1, 1) := by decide +kernel
theorem dX8_height_15 : decode cX8_height 15 = .ok (.iaload, 1) := by decide +kernel
theorem dX8_height_16 : decode cX8_height 16 = .ok (.ireturn, 1) := by decide +kernel
theorem dX8_owner_0 : decode cX8_owner 0 = .ok (.iload_n 1, 1) := by decide +kernel
theorem dX8_owner_1 : decode cX8_owner 1 = .ok (.invokestatic 136, 3) := by decide +kernel
theorem dX8_owner_4 : decode cX8_owner 4 = .ok (.aload_n 0, 1) := by decide +kernel
theorem dX8_owner_5 : decode cX8_owner 5 = .ok (.getfield 10, 3) := by decide +kernel
theorem dX8_owner_8 : decode cX8_owner 8 = .ok (.getfield 119, 3) := by decide +kernel
theorem dX8_owner_11 : decode cX8_owner 11 = .ok (.getfield 142, 3) := by decide +kernel
theorem dX8_owner_14 : decode cX8_owner 14 = .ok (.iload_n 1, 1) := by decide +kernel
theorem dX8_owner_15 : decode cX8_owner 15 = .ok (.iaload, 1) := by decide +kernel
theorem dX8_owner_16 : decode cX8_owner 16 = .ok (.iconst (-1), 1) := by decide +kernel
theorem dX8_owner_17 : decode cX8_owner 17 = .ok (.if_icmp .ne 13, 3) := by decide +kernel
theorem dX8_owner_20 : decode cX8_owner 20 = .ok (.new 145, 3) := by decide +kernel
theorem dX8_owner_23 : decode cX8_owner 23 = .ok (.dup, 1) := by decide +kernel
theorem dX8_owner_24 : decode cX8_owner 24 = .ok (.ldc 147, 2) := by decide +kernel
theorem dX8_owner_26 : decode cX8_owner 26 = .ok (.invokespecial 149, 3) := by decide +kernel
theorem dX8_owner_29 : decode cX8_owner 29 = .ok (.athrow, 1) := by decide +kernel
theorem dX8_owner_30 : decode cX8_owner 30 = .ok (.aload_n 0, 1) := by decide +kernel
theorem dX8_owner_31 : decode cX8_owner 31 = .ok (.getfield 10, 3) := by decide +kernel
theorem dX8_owner_34 : decode cX8_owner 34 = .ok (.getfield 119, 3) := by decide +kernel
theorem dX8_owner_37 : decode cX8_owner 37 = .ok (.getfield 142, 3) := by decide +kernel
theorem dX8_owner_40 : decode cX8_owner 40 = .ok (.iload_n 1, 1) := by decide +kernel
theorem dX8_owner_41 : decode cX8_owner 41 = .ok (.iaload, 1) := by decide +kernel
theorem dX8_owner_42 : decode cX8_owner 42 = .ok (.ireturn, 1) := by decide +kernel
theorem dX8_steepness_0 : decode cX8_steepness 0 = .ok (.iload_n 1, 1) := by decide +kernel
theorem dX8_steepness_1 : decode cX8_steepness 1 = .ok (.invokestatic 136, 3) := by decide +kernel
theorem dX8_steepness_4 : decode cX8_steepness 4 = .ok (.aload_n 0, 1) := by decide +kernel
theorem dX8_steepness_5 : decode cX8_steepness 5 = .ok (.getfield 10, 3) := by decide +kernel
theorem dX8_steepness_8 : decode cX8_steepness 8 = .ok (.getfield 119, 3) := by decide +kernel
theorem dX8_steepness_11 : decode cX8_steepness 11 = .ok (.iload_n 1, 1) := by decide +kernel
theorem dX8_steepness_12 : decode cX8_steepness 12 = .ok (.invokevirtual 152, 3) := by decide +kernel
theorem dX8_steepness_15 : decode cX8_steepness 15 = .ok (.ireturn, 1) := by decide +kernel
theorem dX8_lowestNeighbour_0 : decode cX8_lowestNeighbour 0 = .ok (.iload_n 1, 1) := by decide +kernel
theorem dX8_lowestNeighbour_1 : decode cX8_lowestNeighbour 1 = .ok (.invokestatic 136, 3) := by decide +kernel
theorem dX8_lowestNeighbour_4 : decode cX8_lowestNeighbour 4 = .ok (.aload_n 0, 1) := by decide +kernel
theorem dX8_lowestNeighbour_5 : decode cX8_lowestNeighbour 5 = .ok (.getfield 10, 3) := by decide +kernel
theorem dX8_lowestNeighbour_8 : decode cX8_lowestNeighbour 8 = .ok (.getfield 119, 3) := by decide +kernel
theorem dX8_lowestNeighbour_11 : decode cX8_lowestNeighbour 11 = .ok (.iload_n 1, 1) := by decide +kernel
theorem dX8_lowestNeighbour_12 : decode cX8_lowestNeighbour 12 = .ok (.invokevirtual 155, 3) := by decide +kernel
theorem dX8_lowestNeighbour_15 : decode cX8_lowestNeighbour 15 = .ok (.ireturn, 1) := by decide +kernel
theorem dX8_stonesOnHill_0 : decode cX8_stonesOnHill 0 = .ok (.aload_n 0, 1) := by decide +kernel
theorem dX8_stonesOnHill_1 : decode cX8_stonesOnHill 1 = .ok (.getfield 10, 3) := by decide +kernel
theorem dX8_stonesOnHill_4 : decode cX8_stonesOnHill 4 = .ok (.getfield 119, 3) := by decide +kernel
theorem dX8_stonesOnHill_7 : decode cX8_stonesOnHill 7 = .ok (.invokevirtual 158, 3) := by decide +kernel
theorem dX8_stonesOnHill_10 : decode cX8_stonesOnHill 10 = .ok (.ireturn, 1) := by decide +kernel
theorem dX8_stonesByLevels_0 : decode cX8_stonesByLevels 0 = .ok (.aload_n 0, 1) := by decide +kernel
theorem dX8_stonesByLevels_1 : decode cX8_stonesByLevels 1 = .ok (.getfield 10, 3) := by decide +kernel
theorem dX8_stonesByLevels_4 : decode cX8_stonesByLevels 4 = .ok (.getfield 119, 3) := by decide +kernel
theorem dX8_stonesByLevels_7 : decode cX8_stonesByLevels 7 = .ok (.invokevirtual 161, 3) := by decide +kernel
theorem dX8_stonesByLevels_10 : decode cX8_stonesByLevels 10 = .ok (.ireturn, 1) := by decide +kernel
theorem dX8_highestCell_0 : decode cX8_highestCell 0 = .ok (.aload_n 0, 1) := by decide +kernel
theorem dX8_highestCell_1 : decode cX8_highestCell 1 = .ok (.getfield 10, 3) := by decide +kernel
theorem dX8_highestCell_4 : decode cX8_highestCell 4 = .ok (.getfield 119, 3) := by decide +kernel
theorem dX8_highestCell_7 : decode cX8_highestCell 7 = .ok (.invokevirtual 164, 3) := by decide +kernel
theorem dX8_highestCell_10 : decode cX8_highestCell 10 = .ok (.ireturn, 1) := by decide +kernel
theorem dX8_topplesIf_0 : decode cX8_topplesIf 0 = .ok (.iload_n 1, 1) := by decide +kernel
theorem dX8_topplesIf_1 : decode cX8_topplesIf 1 = .ok (.invokestatic 136, 3) := by decide +kernel
theorem dX8_topplesIf_4 : decode cX8_topplesIf 4 = .ok (.iload_n 2, 1) := by decide +kernel
theorem dX8_topplesIf_5 : decode cX8_topplesIf 5 = .ok (.invokestatic 167, 3) := by decide +kernel
theorem dX8_topplesIf_8 : decode cX8_topplesIf 8 = .ok (.aload_n 0, 1) := by decide +kernel
theorem dX8_topplesIf_9 : decode cX8_topplesIf 9 = .ok (.getfield 29, 3) := by decide +kernel
theorem dX8_topplesIf_12 : decode cX8_topplesIf 12 = .ok (.aload_n 0, 1) := by decide +kernel
theorem dX8_topplesIf_13 : decode cX8_topplesIf 13 = .ok (.getfield 10, 3) := by decide +kernel
theorem dX8_topplesIf_16 : decode cX8_topplesIf 16 = .ok (.getfield 119, 3) := by decide +kernel
theorem dX8_topplesIf_19 : decode cX8_topplesIf 19 = .ok (.iload_n 1, 1) := by decide +kernel
theorem dX8_topplesIf_20 : decode cX8_topplesIf 20 = .ok (.iload_n 2, 1) := by decide +kernel
theorem dX8_topplesIf_21 : decode cX8_topplesIf 21 = .ok (.invokevirtual 170, 3) := by decide +kernel
theorem dX8_topplesIf_24 : decode cX8_topplesIf 24 = .ok (.ireturn, 1) := by decide +kernel
theorem dX8_topplesIfByScan_0 : decode cX8_topplesIfByScan 0 = .ok (.iload_n 1, 1) := by decide +kernel
theorem dX8_topplesIfByScan_1 : decode cX8_topplesIfByScan 1 = .ok (.invokestatic 136, 3) := by decide +kernel
theorem dX8_topplesIfByScan_4 : decode cX8_topplesIfByScan 4 = .ok (.iload_n 2, 1) := by decide +kernel
theorem dX8_topplesIfByScan_5 : decode cX8_topplesIfByScan 5 = .ok (.invokestatic 167, 3) := by decide +kernel
theorem dX8_topplesIfByScan_8 : decode cX8_topplesIfByScan 8 = .ok (.aload_n 0, 1) := by decide +kernel
theorem dX8_topplesIfByScan_9 : decode cX8_topplesIfByScan 9 = .ok (.getfield 29, 3) := by decide +kernel
theorem dX8_topplesIfByScan_12 : decode cX8_topplesIfByScan 12 = .ok (.aload_n 0, 1) := by decide +kernel
theorem dX8_topplesIfByScan_13 : decode cX8_topplesIfByScan 13 = .ok (.getfield 10, 3) := by decide +kernel
theorem dX8_topplesIfByScan_16 : decode cX8_topplesIfByScan 16 = .ok (.getfield 119, 3) := by decide +kernel
theorem dX8_topplesIfByScan_19 : decode cX8_topplesIfByScan 19 = .ok (.iload_n 1, 1) := by decide +kernel
theorem dX8_topplesIfByScan_20 : decode cX8_topplesIfByScan 20 = .ok (.iload_n 2, 1) := by decide +kernel
theorem dX8_topplesIfByScan_21 : decode cX8_topplesIfByScan 21 = .ok (.invokevirtual 174, 3) := by decide +kernel
theorem dX8_topplesIfByScan_24 : decode cX8_topplesIfByScan 24 = .ok (.ireturn, 1) := by decide +kernel
theorem dX8_isPeak_0 : decode cX8_isPeak 0 = .ok (.iload_n 1, 1) := by decide +kernel
theorem dX8_isPeak_1 : decode cX8_isPeak 1 = .ok (.invokestatic 136, 3) := by decide +kernel
theorem dX8_isPeak_4 : decode cX8_isPeak 4 = .ok (.aload_n 0, 1) := by decide +kernel
theorem dX8_isPeak_5 : decode cX8_isPeak 5 = .ok (.getfield 10, 3) := by decide +kernel
theorem dX8_isPeak_8 : decode cX8_isPeak 8 = .ok (.getfield 119, 3) := by decide +kernel
theorem dX8_isPeak_11 : decode cX8_isPeak 11 = .ok (.iload_n 1, 1) := by decide +kernel
theorem dX8_isPeak_12 : decode cX8_isPeak 12 = .ok (.invokevirtual 177, 3) := by decide +kernel
theorem dX8_isPeak_15 : decode cX8_isPeak 15 = .ok (.ireturn, 1) := by decide +kernel
theorem dX8_peakCount_0 : decode cX8_peakCount 0 = .ok (.aload_n 0, 1) := by decide +kernel
theorem dX8_peakCount_1 : decode cX8_peakCount 1 = .ok (.getfield 10, 3) := by decide +kernel
theorem dX8_peakCount_4 : decode cX8_peakCount 4 = .ok (.getfield 119, 3) := by decide +kernel
theorem dX8_peakCount_7 : decode cX8_peakCount 7 = .ok (.invokevirtual 181, 3) := by decide +kernel
theorem dX8_peakCount_10 : decode cX8_peakCount 10 = .ok (.ireturn, 1) := by decide +kernel
theorem dX8_peakAt_0 : decode cX8_peakAt 0 = .ok (.iconst 0, 1) := by decide +kernel
theorem dX8_peakAt_1 : decode cX8_peakAt 1 = .ok (.istore_n 2, 1) := by decide +kernel
theorem dX8_peakAt_2 : decode cX8_peakAt 2 = .ok (.iload_n 2, 1) := by decide +kernel
theorem dX8_peakAt_3 : decode cX8_peakAt 3 = .ok (.bipush 25, 2) := by decide +kernel
theorem dX8_peakAt_5 : decode cX8_peakAt 5 = .ok (.if_icmp .ge 40, 3) := by decide +kernel
theorem dX8_peakAt_8 : decode cX8_peakAt 8 = .ok (.aload_n 0, 1) := by decide +kernel
theorem dX8_peakAt_9 : decode cX8_peakAt 9 = .ok (.getfield 10, 3) := by decide +kernel
theorem dX8_peakAt_12 : decode cX8_peakAt 12 = .ok (.getfield 119, 3) := by decide +kernel
theorem dX8_peakAt_15 : decode cX8_peakAt 15 = .ok (.iload_n 2, 1) := by decide +kernel
theorem dX8_peakAt_16 : decode cX8_peakAt 16 = .ok (.invokevirtual 177, 3) := by decide +kernel
theorem dX8_peakAt_19 : decode cX8_peakAt 19 = .ok (.ifCond .eq 20, 3) := by decide +kernel
theorem dX8_peakAt_22 : decode cX8_peakAt 22 = .ok (.aload_n 0, 1) := by decide +kernel
theorem dX8_peakAt_23 : decode cX8_peakAt 23 = .ok (.getfield 10, 3) := by decide +kernel
theorem dX8_peakAt_26 : decode cX8_peakAt 26 = .ok (.getfield 119, 3) := by decide +kernel
theorem dX8_peakAt_29 : decode cX8_peakAt 29 = .ok (.iload_n 2, 1) := by decide +kernel
theorem dX8_peakAt_30 : decode cX8_peakAt 30 = .ok (.invokevirtual 184, 3) := by decide +kernel
theorem dX8_peakAt_33 : decode cX8_peakAt 33 = .ok (.iload_n 1, 1) := by decide +kernel
theorem dX8_peakAt_34 : decode cX8_peakAt 34 = .ok (.if_icmp .ne 5, 3) := by decide +kernel
theorem dX8_peakAt_37 : decode cX8_peakAt 37 = .ok (.iload_n 2, 1) := by decide +kernel
theorem dX8_peakAt_38 : decode cX8_peakAt 38 = .ok (.ireturn, 1) := by decide +kernel
theorem dX8_peakAt_39 : decode cX8_peakAt 39 = .ok (.iinc 2 1, 3) := by decide +kernel
theorem dX8_peakAt_42 : decode cX8_peakAt 42 = .ok (.goto (-40), 3) := by decide +kernel
theorem dX8_peakAt_45 : decode cX8_peakAt 45 = .ok (.new 145, 3) := by decide +kernel
theorem dX8_peakAt_48 : decode cX8_peakAt 48 = .ok (.dup, 1) := by decide +kernel
theorem dX8_peakAt_49 : decode cX8_peakAt 49 = .ok (.ldc 187, 2) := by decide +kernel
theorem dX8_peakAt_51 : decode cX8_peakAt 51 = .ok (.invokespecial 149, 3) := by decide +kernel
theorem dX8_peakAt_54 : decode cX8_peakAt 54 = .ok (.athrow, 1) := by decide +kernel
theorem dX8_crowns_0 : decode cX8_crowns 0 = .ok (.aload_n 0, 1) := by decide +kernel
theorem dX8_crowns_1 : decode cX8_crowns 1 = .ok (.iload_n 1, 1) := by decide +kernel
theorem dX8_crowns_2 : decode cX8_crowns 2 = .ok (.invokevirtual 103, 3) := by decide +kernel
theorem dX8_crowns_5 : decode cX8_crowns 5 = .ok (.aload_n 0, 1) := by decide +kernel
theorem dX8_crowns_6 : decode cX8_crowns 6 = .ok (.getfield 10, 3) := by decide +kernel
theorem dX8_crowns_9 : decode cX8_crowns 9 = .ok (.getfield 119, 3) := by decide +kernel
theorem dX8_crowns_12 : decode cX8_crowns 12 = .ok (.iload_n 1, 1) := by decide +kernel
theorem dX8_crowns_13 : decode cX8_crowns 13 = .ok (.invokevirtual 189, 3) := by decide +kernel
theorem dX8_crowns_16 : decode cX8_crowns 16 = .ok (.ireturn, 1) := by decide +kernel
theorem dX8_score_0 : decode cX8_score 0 = .ok (.aload_n 0, 1) := by decide +kernel
theorem dX8_score_1 : decode cX8_score 1 = .ok (.iload_n 1, 1) := by decide +kernel
theorem dX8_score_2 : decode cX8_score 2 = .ok (.invokevirtual 103, 3) := by decide +kernel
theorem dX8_score_5 : decode cX8_score 5 = .ok (.aload_n 0, 1) := by decide +kernel
theorem dX8_score_6 : decode cX8_score 6 = .ok (.getfield 10, 3) := by decide +kernel
theorem dX8_score_9 : decode cX8_score 9 = .ok (.getfield 119, 3) := by decide +kernel
theorem dX8_score_12 : decode cX8_score 12 = .ok (.iload_n 1, 1) := by decide +kernel
theorem dX8_score_13 : decode cX8_score 13 = .ok (.invokevirtual 192, 3) := by decide +kernel
theorem dX8_score_16 : decode cX8_score 16 = .ok (.ireturn, 1) := by decide +kernel
theorem dX8_playerAtRank_0 : decode cX8_playerAtRank 0 = .ok (.iconst 0, 1) := by decide +kernel
theorem dX8_playerAtRank_1 : decode cX8_playerAtRank 1 = .ok (.istore_n 2, 1) := by decide +kernel
theorem dX8_playerAtRank_2 : decode cX8_playerAtRank 2 = .ok (.iload_n 2, 1) := by decide +kernel
theorem dX8_playerAtRank_3 : decode cX8_playerAtRank 3 = .ok (.aload_n 0, 1) := by decide +kernel
theorem dX8_playerAtRank_4 : decode cX8_playerAtRank 4 = .ok (.getfield 10, 3) := by decide +kernel
theorem dX8_playerAtRank_7 : decode cX8_playerAtRank 7 = .ok (.getfield 100, 3) := by decide +kernel
theorem dX8_playerAtRank_10 : decode cX8_playerAtRank 10 = .ok (.if_icmp .ge 23, 3) := by decide +kernel
theorem dX8_playerAtRank_13 : decode cX8_playerAtRank 13 = .ok (.aload_n 0, 1) := by decide +kernel
theorem dX8_playerAtRank_14 : decode cX8_playerAtRank 14 = .ok (.getfield 10, 3) := by decide +kernel
theorem dX8_playerAtRank_17 : decode cX8_playerAtRank 17 = .ok (.iload_n 2, 1) := by decide +kernel
theorem dX8_playerAtRank_18 : decode cX8_playerAtRank 18 = .ok (.invokevirtual 195, 3) := by decide +kernel
theorem dX8_playerAtRank_21 : decode cX8_playerAtRank 21 = .ok (.iload_n 1, 1) := by decide +kernel
theorem dX8_playerAtRank_22 : decode cX8_playerAtRank 22 = .ok (.if_icmp .ne 5, 3) := by decide +kernel
theorem dX8_playerAtRank_25 : decode cX8_playerAtRank 25 = .ok (.iload_n 2, 1) := by decide +kernel
theorem dX8_playerAtRank_26 : decode cX8_playerAtRank 26 = .ok (.ireturn, 1) := by decide +kernel
theorem dX8_playerAtRank_27 : decode cX8_playerAtRank 27 = .ok (.iinc 2 1, 3) := by decide +kernel
theorem dX8_playerAtRank_30 : decode cX8_playerAtRank 30 = .ok (.goto (-28), 3) := by decide +kernel
theorem dX8_playerAtRank_33 : decode cX8_playerAtRank 33 = .ok (.new 145, 3) := by decide +kernel
theorem dX8_playerAtRank_36 : decode cX8_playerAtRank 36 = .ok (.dup, 1) := by decide +kernel
theorem dX8_playerAtRank_37 : decode cX8_playerAtRank 37 = .ok (.ldc 198, 2) := by decide +kernel
theorem dX8_playerAtRank_39 : decode cX8_playerAtRank 39 = .ok (.invokespecial 149, 3) := by decide +kernel
theorem dX8_playerAtRank_42 : decode cX8_playerAtRank 42 = .ok (.athrow, 1) := by decide +kernel
theorem dX8_crownShare_0 : decode cX8_crownShare 0 = .ok (.aload_n 0, 1) := by decide +kernel
theorem dX8_crownShare_1 : decode cX8_crownShare 1 = .ok (.iload_n 1, 1) := by decide +kernel
theorem dX8_crownShare_2 : decode cX8_crownShare 2 = .ok (.invokevirtual 103, 3) := by decide +kernel
theorem dX8_crownShare_5 : decode cX8_crownShare 5 = .ok (.aload_n 0, 1) := by decide +kernel
theorem dX8_crownShare_6 : decode cX8_crownShare 6 = .ok (.getfield 10, 3) := by decide +kernel
theorem dX8_crownShare_9 : decode cX8_crownShare 9 = .ok (.getfield 119, 3) := by decide +kernel
theorem dX8_crownShare_12 : decode cX8_crownShare 12 = .ok (.invokevirtual 181, 3) := by decide +kernel
theorem dX8_crownShare_15 : decode cX8_crownShare 15 = .ok (.istore_n 2, 1) := by decide +kernel
theorem dX8_crownShare_16 : decode cX8_crownShare 16 = .ok (.iload_n 2, 1) := by decide +kernel
theorem dX8_crownShare_17 : decode cX8_crownShare 17 = .ok (.ifCond .ne 13, 3) := by decide +kernel
theorem dX8_crownShare_20 : decode cX8_crownShare 20 = .ok (.new 200, 3) := by decide +kernel
theorem dX8_crownShare_23 : decode cX8_crownShare 23 = .ok (.dup, 1) := by decide +kernel
theorem dX8_crownShare_24 : decode cX8_crownShare 24 = .ok (.ldc 202, 2) := by decide +kernel
theorem dX8_crownShare_26 : decode cX8_crownShare 26 = .ok (.invokespecial 204, 3) := by decide +kernel
theorem dX8_crownShare_29 : decode cX8_crownShare 29 = .ok (.athrow, 1) := by decide +kernel
theorem dX8_crownShare_30 : decode cX8_crownShare 30 = .ok (.aload_n 0, 1) := by decide +kernel
theorem dX8_crownShare_31 : decode cX8_crownShare 31 = .ok (.getfield 10, 3) := by decide +kernel
theorem dX8_crownShare_34 : decode cX8_crownShare 34 = .ok (.getfield 119, 3) := by decide +kernel
theorem dX8_crownShare_37 : decode cX8_crownShare 37 = .ok (.iload_n 1, 1) := by decide +kernel
theorem dX8_crownShare_38 : decode cX8_crownShare 38 = .ok (.invokevirtual 189, 3) := by decide +kernel
theorem dX8_crownShare_41 : decode cX8_crownShare 41 = .ok (.i2f, 1) := by decide +kernel
theorem dX8_crownShare_42 : decode cX8_crownShare 42 = .ok (.iload_n 2, 1) := by decide +kernel
theorem dX8_crownShare_43 : decode cX8_crownShare 43 = .ok (.i2f, 1) := by decide +kernel
theorem dX8_crownShare_44 : decode cX8_crownShare 44 = .ok (.fdiv, 1) := by decide +kernel
theorem dX8_crownShare_45 : decode cX8_crownShare 45 = .ok (.freturn, 1) := by decide +kernel
theorem dX8_toppleTotal_0 : decode cX8_toppleTotal 0 = .ok (.aload_n 0, 1) := by decide +kernel
theorem dX8_toppleTotal_1 : decode cX8_toppleTotal 1 = .ok (.getfield 10, 3) := by decide +kernel
theorem dX8_toppleTotal_4 : decode cX8_toppleTotal 4 = .ok (.getfield 205, 3) := by decide +kernel
theorem dX8_toppleTotal_7 : decode cX8_toppleTotal 7 = .ok (.ireturn, 1) := by decide +kernel
theorem dX8_avalancheCount_0 : decode cX8_avalancheCount 0 = .ok (.aload_n 0, 1) := by decide +kernel
theorem dX8_avalancheCount_1 : decode cX8_avalancheCount 1 = .ok (.getfield 10, 3) := by decide +kernel
theorem dX8_avalancheCount_4 : decode cX8_avalancheCount 4 = .ok (.getfield 208, 3) := by decide +kernel
theorem dX8_avalancheCount_7 : decode cX8_avalancheCount 7 = .ok (.ireturn, 1) := by decide +kernel
theorem dX8_largestAvalanche_0 : decode cX8_largestAvalanche 0 = .ok (.aload_n 0, 1) := by decide +kernel
theorem dX8_largestAvalanche_1 : decode cX8_largestAvalanche 1 = .ok (.getfield 10, 3) := by decide +kernel
theorem dX8_largestAvalanche_4 : decode cX8_largestAvalanche 4 = .ok (.getfield 211, 3) := by decide +kernel
theorem dX8_largestAvalanche_7 : decode cX8_largestAvalanche 7 = .ok (.ireturn, 1) := by decide +kernel
theorem dX8_placedTotal_0 : decode cX8_placedTotal 0 = .ok (.aload_n 0, 1) := by decide +kernel
theorem dX8_placedTotal_1 : decode cX8_placedTotal 1 = .ok (.getfield 10, 3) := by decide +kernel
theorem dX8_placedTotal_4 : decode cX8_placedTotal 4 = .ok (.getfield 214, 3) := by decide +kernel
theorem dX8_placedTotal_7 : decode cX8_placedTotal 7 = .ok (.ireturn, 1) := by decide +kernel
theorem dX8_lostTotal_0 : decode cX8_lostTotal 0 = .ok (.aload_n 0, 1) := by decide +kernel
theorem dX8_lostTotal_1 : decode cX8_lostTotal 1 = .ok (.getfield 10, 3) := by decide +kernel
theorem dX8_lostTotal_4 : decode cX8_lostTotal 4 = .ok (.getfield 119, 3) := by decide +kernel
theorem dX8_lostTotal_7 : decode cX8_lostTotal 7 = .ok (.getfield 217, 3) := by decide +kernel
theorem dX8_lostTotal_10 : decode cX8_lostTotal 10 = .ok (.ireturn, 1) := by decide +kernel
theorem dX8_takenTotal_0 : decode cX8_takenTotal 0 = .ok (.aload_n 0, 1) := by decide +kernel
theorem dX8_takenTotal_1 : decode cX8_takenTotal 1 = .ok (.getfield 10, 3) := by decide +kernel
theorem dX8_takenTotal_4 : decode cX8_takenTotal 4 = .ok (.getfield 220, 3) := by decide +kernel
theorem dX8_takenTotal_7 : decode cX8_takenTotal 7 = .ok (.ireturn, 1) := by decide +kernel
theorem dX8_append_0 : decode cX8_append 0 = .ok (.iload_n 1, 1) := by decide +kernel
theorem dX8_append_1 : decode cX8_append 1 = .ok (.bipush 32, 2) := by decide +kernel
theorem dX8_append_3 : decode cX8_append 3 = .ok (.if_icmp .lt 9, 3) := by decide +kernel
theorem dX8_append_6 : decode cX8_append 6 = .ok (.iload_n 1, 1) := by decide +kernel
theorem dX8_append_7 : decode cX8_append 7 = .ok (.bipush 126, 2) := by decide +kernel
theorem dX8_append_9 : decode cX8_append 9 = .ok (.if_icmp .le 13, 3) := by decide +kernel
theorem dX8_append_12 : decode cX8_append 12 = .ok (.new 223, 3) := by decide +kernel
theorem dX8_append_15 : decode cX8_append 15 = .ok (.dup, 1) := by decide +kernel
theorem dX8_append_16 : decode cX8_append 16 = .ok (.ldc 225, 2) := by decide +kernel
theorem dX8_append_18 : decode cX8_append 18 = .ok (.invokespecial 227, 3) := by decide +kernel
theorem dX8_append_21 : decode cX8_append 21 = .ok (.athrow, 1) := by decide +kernel
theorem dX8_append_22 : decode cX8_append 22 = .ok (.aload_n 0, 1) := by decide +kernel
theorem dX8_append_23 : decode cX8_append 23 = .ok (.getfield 36, 3) := by decide +kernel
theorem dX8_append_26 : decode cX8_append 26 = .ok (.getfield 228, 3) := by decide +kernel
theorem dX8_append_29 : decode cX8_append 29 = .ok (.invokevirtual 231, 3) := by decide +kernel
theorem dX8_append_32 : decode cX8_append 32 = .ok (.bipush 60, 2) := by decide +kernel
theorem dX8_append_34 : decode cX8_append 34 = .ok (.if_icmp .lt 13, 3) := by decide +kernel
theorem dX8_append_37 : decode cX8_append 37 = .ok (.new 234, 3) := by decide +kernel
theorem dX8_append_40 : decode cX8_append 40 = .ok (.dup, 1) := by decide +kernel
theorem dX8_append_41 : decode cX8_append 41 = .ok (.ldc 236, 2) := by decide +kernel
theorem dX8_append_43 : decode cX8_append 43 = .ok (.invokespecial 238, 3) := by decide +kernel
theorem dX8_append_46 : decode cX8_append 46 = .ok (.athrow, 1) := by decide +kernel
theorem dX8_append_47 : decode cX8_append 47 = .ok (.aload_n 0, 1) := by decide +kernel
theorem dX8_append_48 : decode cX8_append 48 = .ok (.getfield 36, 3) := by decide +kernel
theorem dX8_append_51 : decode cX8_append 51 = .ok (.getfield 228, 3) := by decide +kernel
theorem dX8_append_54 : decode cX8_append 54 = .ok (.iload_n 1, 1) := by decide +kernel
theorem dX8_append_55 : decode cX8_append 55 = .ok (.invokevirtual 239, 3) := by decide +kernel
theorem dX8_append_58 : decode cX8_append 58 = .ok (.pop, 1) := by decide +kernel
theorem dX8_append_59 : decode cX8_append 59 = .ok (.aload_n 0, 1) := by decide +kernel
theorem dX8_append_60 : decode cX8_append 60 = .ok (.getfield 36, 3) := by decide +kernel
theorem dX8_append_63 : decode cX8_append 63 = .ok (.getfield 228, 3) := by decide +kernel
theorem dX8_append_66 : decode cX8_append 66 = .ok (.invokevirtual 231, 3) := by decide +kernel
theorem dX8_append_69 : decode cX8_append 69 = .ok (.ireturn, 1) := by decide +kernel
theorem dX8_run_0 : decode cX8_run 0 = .ok (.aload_n 0, 1) := by decide +kernel
theorem dX8_run_1 : decode cX8_run 1 = .ok (.getfield 36, 3) := by decide +kernel
theorem dX8_run_4 : decode cX8_run 4 = .ok (.invokevirtual 243, 3) := by decide +kernel
theorem dX8_run_7 : decode cX8_run 7 = .ok (.istore_n 1, 1) := by decide +kernel
theorem dX8_run_8 : decode cX8_run 8 = .ok (.aload_n 0, 1) := by decide +kernel
theorem dX8_run_9 : decode cX8_run 9 = .ok (.getfield 36, 3) := by decide +kernel
theorem dX8_run_12 : decode cX8_run 12 = .ok (.getfield 228, 3) := by decide +kernel
theorem dX8_run_15 : decode cX8_run 15 = .ok (.iconst 0, 1) := by decide +kernel
theorem dX8_run_16 : decode cX8_run 16 = .ok (.invokevirtual 247, 3) := by decide +kernel
theorem dX8_run_19 : decode cX8_run 19 = .ok (.iload_n 1, 1) := by decide +kernel
theorem dX8_run_20 : decode cX8_run 20 = .ok (.ifCond .ne 24, 3) := by decide +kernel
theorem dX8_run_23 : decode cX8_run 23 = .ok (.aload_n 0, 1) := by decide +kernel
theorem dX8_run_24 : decode cX8_run 24 = .ok (.aload_n 0, 1) := by decide +kernel
theorem dX8_run_25 : decode cX8_run 25 = .ok (.getfield 36, 3) := by decide +kernel
theorem dX8_run_28 : decode cX8_run 28 = .ok (.getfield 250, 3) := by decide +kernel
theorem dX8_run_31 : decode cX8_run 31 = .ok (.putfield 40, 3) := by decide +kernel
theorem dX8_run_34 : decode cX8_run 34 = .ok (.new 223, 3) := by decide +kernel
theorem dX8_run_37 : decode cX8_run 37 = .ok (.dup, 1) := by decide +kernel
theorem dX8_run_38 : decode cX8_run 38 = .ok (.ldc 253, 2) := by decide +kernel
theorem dX8_run_40 : decode cX8_run 40 = .ok (.invokespecial 227, 3) := by decide +kernel
theorem dX8_run_43 : decode cX8_run 43 = .ok (.athrow, 1) := by decide +kernel
theorem dX8_run_44 : decode cX8_run 44 = .ok (.aload_n 0, 1) := by decide +kernel
theorem dX8_run_45 : decode cX8_run 45 = .ok (.getfield 16, 3) := by decide +kernel
theorem dX8_run_48 : decode cX8_run 48 = .ok (.aload_n 0, 1) := by decide +kernel
theorem dX8_run_49 : decode cX8_run 49 = .ok (.getfield 10, 3) := by decide +kernel
theorem dX8_run_52 : decode cX8_run 52 = .ok (.invokevirtual 255, 3) := by decide +kernel
theorem dX8_run_55 : decode cX8_run 55 = .ok (.iconst 0, 1) := by decide +kernel
theorem dX8_run_56 : decode cX8_run 56 = .ok (.istore_n 2, 1) := by decide +kernel
theorem dX8_run_57 : decode cX8_run 57 = .ok (.iload_n 2, 1) := by decide +kernel
theorem dX8_run_58 : decode cX8_run 58 = .ok (.aload_n 0, 1) := by decide +kernel
theorem dX8_run_59 : decode cX8_run 59 = .ok (.getfield 36, 3) := by decide +kernel
theorem dX8_run_62 : decode cX8_run 62 = .ok (.getfield 258, 3) := by decide +kernel
theorem dX8_run_65 : decode cX8_run 65 = .ok (.if_icmp .ge 62, 3) := by decide +kernel
theorem dX8_run_68 : decode cX8_run 68 = .ok (.aload_n 0, 1) := by decide +kernel
theorem dX8_run_69 : decode cX8_run 69 = .ok (.getfield 36, 3) := by decide +kernel
theorem dX8_run_72 : decode cX8_run 72 = .ok (.getfield 261, 3) := by decide +kernel
theorem dX8_run_75 : decode cX8_run 75 = .ok (.iload_n 2, 1) := by decide +kernel
theorem dX8_run_76 : decode cX8_run 76 = .ok (.aaload, 1) := by decide +kernel
theorem dX8_run_77 : decode cX8_run 77 = .ok (.astore_n 3, 1) := by decide +kernel
theorem dX8_run_78 : decode cX8_run 78 = .ok (.aload_n 0, 1) := by decide +kernel
theorem dX8_run_79 : decode cX8_run 79 = .ok (.aload_n 3, 1) := by decide +kernel
theorem dX8_run_80 : decode cX8_run 80 = .ok (.invokevirtual 265, 3) := by decide +kernel
theorem dX8_run_83 : decode cX8_run 83 = .ok (.getstatic 269, 3) := by decide +kernel
theorem dX8_run_86 : decode cX8_run 86 = .ok (.if_acmp .eq 30, 3) := by decide +kernel
theorem dX8_run_89 : decode cX8_run 89 = .ok (.aload_n 0, 1) := by decide +kernel
theorem dX8_run_90 : decode cX8_run 90 = .ok (.getfield 10, 3) := by decide +kernel
theorem dX8_run_93 : decode cX8_run 93 = .ok (.aload_n 0, 1) := by decide +kernel
theorem dX8_run_94 : decode cX8_run 94 = .ok (.getfield 16, 3) := by decide +kernel
theorem dX8_run_97 : decode cX8_run 97 = .ok (.invokevirtual 255, 3) := by decide +kernel
theorem dX8_run_100 : decode cX8_run 100 = .ok (.aload_n 0, 1) := by decide +kernel
theorem dX8_run_101 : decode cX8_run 101 = .ok (.iload_n 2, 1) := by decide +kernel
theorem dX8_run_102 : decode cX8_run 102 = .ok (.putfield 44, 3) := by decide +kernel
theorem dX8_run_105 : decode cX8_run 105 = .ok (.new 234, 3) := by decide +kernel
theorem dX8_run_108 : decode cX8_run 108 = .ok (.dup, 1) := by decide +kernel
theorem dX8_run_109 : decode cX8_run 109 = .ok (.ldc_w 275, 3) := by decide +kernel
theorem dX8_run_112 : decode cX8_run 112 = .ok (.invokespecial 238, 3) := by decide +kernel
theorem dX8_run_115 : decode cX8_run 115 = .ok (.athrow, 1) := by decide +kernel
theorem dX8_run_116 : decode cX8_run 116 = .ok (.aload_n 0, 1) := by decide +kernel
theorem dX8_run_117 : decode cX8_run 117 = .ok (.aload_n 3, 1) := by decide +kernel
theorem dX8_run_118 : decode cX8_run 118 = .ok (.invokevirtual 277, 3) := by decide +kernel
theorem dX8_run_121 : decode cX8_run 121 = .ok (.iinc 2 1, 3) := by decide +kernel
theorem dX8_run_124 : decode cX8_run 124 = .ok (.goto (-67), 3) := by decide +kernel
theorem dX8_run_127 : decode cX8_run 127 = .ok (.aload_n 0, 1) := by decide +kernel
theorem dX8_run_128 : decode cX8_run 128 = .ok (.aload_n 0, 1) := by decide +kernel
theorem dX8_run_129 : decode cX8_run 129 = .ok (.getfield 16, 3) := by decide +kernel
theorem dX8_run_132 : decode cX8_run 132 = .ok (.invokevirtual 62, 3) := by decide +kernel
theorem dX8_run_135 : decode cX8_run 135 = .ok (.aload_n 0, 1) := by decide +kernel
theorem dX8_run_136 : decode cX8_run 136 = .ok (.getfield 36, 3) := by decide +kernel
theorem dX8_run_139 : decode cX8_run 139 = .ok (.getfield 258, 3) := by decide +kernel
theorem dX8_run_142 : decode cX8_run 142 = .ok (.ireturn, 1) := by decide +kernel
theorem dX8_errorPosition_0 : decode cX8_errorPosition 0 = .ok (.aload_n 0, 1) := by decide +kernel
theorem dX8_errorPosition_1 : decode cX8_errorPosition 1 = .ok (.getfield 40, 3) := by decide +kernel
theorem dX8_errorPosition_4 : decode cX8_errorPosition 4 = .ok (.iconst (-1), 1) := by decide +kernel
theorem dX8_errorPosition_5 : decode cX8_errorPosition 5 = .ok (.if_icmp .ne 14, 3) := by decide +kernel
theorem dX8_errorPosition_8 : decode cX8_errorPosition 8 = .ok (.new 145, 3) := by decide +kernel
theorem dX8_errorPosition_11 : decode cX8_errorPosition 11 = .ok (.dup, 1) := by decide +kernel
theorem dX8_errorPosition_12 : decode cX8_errorPosition 12 = .ok (.ldc_w 281, 3) := by decide +kernel
theorem dX8_errorPosition_15 : decode cX8_errorPosition 15 = .ok (.invokespecial 149, 3) := by decide +kernel
theorem dX8_errorPosition_18 : decode cX8_errorPosition 18 = .ok (.athrow, 1) := by decide +kernel
theorem dX8_errorPosition_19 : decode cX8_errorPosition 19 = .ok (.aload_n 0, 1) := by decide +kernel
theorem dX8_errorPosition_20 : decode cX8_errorPosition 20 = .ok (.getfield 40, 3) := by decide +kernel
theorem dX8_errorPosition_23 : decode cX8_errorPosition 23 = .ok (.ireturn, 1) := by decide +kernel
theorem dX8_failedCommand_0 : decode cX8_failedCommand 0 = .ok (.aload_n 0, 1) := by decide +kernel
theorem dX8_failedCommand_1 : decode cX8_failedCommand 1 = .ok (.getfield 44, 3) := by decide +kernel
theorem dX8_failedCommand_4 : decode cX8_failedCommand 4 = .ok (.iconst (-1), 1) := by decide +kernel
theorem dX8_failedCommand_5 : decode cX8_failedCommand 5 = .ok (.if_icmp .ne 14, 3) := by decide +kernel
theorem dX8_failedCommand_8 : decode cX8_failedCommand 8 = .ok (.new 145, 3) := by decide +kernel
theorem dX8_failedCommand_11 : decode cX8_failedCommand 11 = .ok (.dup, 1) := by decide +kernel
theorem dX8_failedCommand_12 : decode cX8_failedCommand 12 = .ok (.ldc_w 283, 3) := by decide +kernel
theorem dX8_failedCommand_15 : decode cX8_failedCommand 15 = .ok (.invokespecial 149, 3) := by decide +kernel
theorem dX8_failedCommand_18 : decode cX8_failedCommand 18 = .ok (.athrow, 1) := by decide +kernel
theorem dX8_failedCommand_19 : decode cX8_failedCommand 19 = .ok (.aload_n 0, 1) := by decide +kernel
theorem dX8_failedCommand_20 : decode cX8_failedCommand 20 = .ok (.getfield 44, 3) := by decide +kernel
theorem dX8_failedCommand_23 : decode cX8_failedCommand 23 = .ok (.ireturn, 1) := by decide +kernel
theorem dX8_describeRow_0 : decode cX8_describeRow 0 = .ok (.iload_n 1, 1) := by decide +kernel
theorem dX8_describeRow_1 : decode cX8_describeRow 1 = .ok (.ifCond .lt 8, 3) := by decide +kernel
theorem dX8_describeRow_4 : decode cX8_describeRow 4 = .ok (.iload_n 1, 1) := by decide +kernel
theorem dX8_describeRow_5 : decode cX8_describeRow 5 = .ok (.iconst 5, 1) := by decide +kernel
theorem dX8_describeRow_6 : decode cX8_describeRow 6 = .ok (.if_icmp .lt 14, 3) := by decide +kernel
theorem dX8_describeRow_9 : decode cX8_describeRow 9 = .ok (.new 285, 3) := by decide +kernel
theorem dX8_describeRow_12 : decode cX8_describeRow 12 = .ok (.dup, 1) := by decide +kernel
theorem dX8_describeRow_13 : decode cX8_describeRow 13 = .ok (.ldc_w 287, 3) := by decide +kernel
theorem dX8_describeRow_16 : decode cX8_describeRow 16 = .ok (.invokespecial 289, 3) := by decide +kernel
theorem dX8_describeRow_19 : decode cX8_describeRow 19 = .ok (.athrow, 1) := by decide +kernel
theorem dX8_describeRow_20 : decode cX8_describeRow 20 = .ok (.aload_n 0, 1) := by decide +kernel
theorem dX8_describeRow_21 : decode cX8_describeRow 21 = .ok (.getfield 50, 3) := by decide +kernel
theorem dX8_describeRow_24 : decode cX8_describeRow 24 = .ok (.iconst 0, 1) := by decide +kernel
theorem dX8_describeRow_25 : decode cX8_describeRow 25 = .ok (.invokevirtual 247, 3) := by decide +kernel
theorem dX8_describeRow_28 : decode cX8_describeRow 28 = .ok (.iconst 0, 1) := by decide +kernel
theorem dX8_describeRow_29 : decode cX8_describeRow 29 = .ok (.istore_n 2, 1) := by decide +kernel
theorem dX8_describeRow_30 : decode cX8_describeRow 30 = .ok (.iload_n 2, 1) := by decide +kernel
theorem dX8_describeRow_31 : decode cX8_describeRow 31 = .ok (.iconst 5, 1) := by decide +kernel
theorem dX8_describeRow_32 : decode cX8_describeRow 32 = .ok (.if_icmp .ge 32, 3) := by decide +kernel
theorem dX8_describeRow_35 : decode cX8_describeRow 35 = .ok (.iload_n 2, 1) := by decide +kernel
theorem dX8_describeRow_36 : decode cX8_describeRow 36 = .ok (.ifCond .le 13, 3) := by decide +kernel
theorem dX8_describeRow_39 : decode cX8_describeRow 39 = .ok (.aload_n 0, 1) := by decide +kernel
theorem dX8_describeRow_40 : decode cX8_describeRow 40 = .ok (.getfield 50, 3) := by decide +kernel
theorem dX8_describeRow_43 : decode cX8_describeRow 43 = .ok (.bipush 32, 2) := by decide +kernel
theorem dX8_describeRow_45 : decode cX8_describeRow 45 = .ok (.invokevirtual 239, 3) := by decide +kernel
theorem dX8_describeRow_48 : decode cX8_describeRow 48 = .ok (.pop, 1) := by decide +kernel
theorem dX8_describeRow_49 : decode cX8_describeRow 49 = .ok (.aload_n 0, 1) := by decide +kernel
theorem dX8_describeRow_50 : decode cX8_describeRow 50 = .ok (.iload_n 1, 1) := by decide +kernel
theorem dX8_describeRow_51 : decode cX8_describeRow 51 = .ok (.iconst 5, 1) := by decide +kernel
theorem dX8_describeRow_52 : decode cX8_describeRow 52 = .ok (.imul, 1) := by decide +kernel
theorem dX8_describeRow_53 : decode cX8_describeRow 53 = .ok (.iload_n 2, 1) := by decide +kernel
theorem dX8_describeRow_54 : decode cX8_describeRow 54 = .ok (.iadd, 1) := by decide +kernel
theorem dX8_describeRow_55 : decode cX8_describeRow 55 = .ok (.invokevirtual 290, 3) := by decide +kernel
theorem dX8_describeRow_58 : decode cX8_describeRow 58 = .ok (.iinc 2 1, 3) := by decide +kernel
theorem dX8_describeRow_61 : decode cX8_describeRow 61 = .ok (.goto (-31), 3) := by decide +kernel
theorem dX8_describeRow_64 : decode cX8_describeRow 64 = .ok (.aload_n 0, 1) := by decide +kernel
theorem dX8_describeRow_65 : decode cX8_describeRow 65 = .ok (.getfield 50, 3) := by decide +kernel
theorem dX8_describeRow_68 : decode cX8_describeRow 68 = .ok (.invokevirtual 231, 3) := by decide +kernel
theorem dX8_describeRow_71 : decode cX8_describeRow 71 = .ok (.ireturn, 1) := by decide +kernel
theorem dX8_lineAt_0 : decode cX8_lineAt 0 = .ok (.iload_n 1, 1) := by decide +kernel
theorem dX8_lineAt_1 : decode cX8_lineAt 1 = .ok (.ifCond .lt 14, 3) := by decide +kernel
theorem dX8_lineAt_4 : decode cX8_lineAt 4 = .ok (.iload_n 1, 1) := by decide +kernel
theorem dX8_lineAt_5 : decode cX8_lineAt 5 = .ok (.aload_n 0, 1) := by decide +kernel
theorem dX8_lineAt_6 : decode cX8_lineAt 6 = .ok (.getfield 50, 3) := by decide +kernel
theorem dX8_lineAt_9 : decode cX8_lineAt 9 = .ok (.invokevirtual 231, 3) := by decide +kernel
theorem dX8_lineAt_12 : decode cX8_lineAt 12 = .ok (.if_icmp .lt 14, 3) := by decide +kernel
theorem dX8_lineAt_15 : decode cX8_lineAt 15 = .ok (.new 285, 3) := by decide +kernel
theorem dX8_lineAt_18 : decode cX8_lineAt 18 = .ok (.dup, 1) := by decide +kernel
theorem dX8_lineAt_19 : decode cX8_lineAt 19 = .ok (.ldc_w 293, 3) := by decide +kernel
theorem dX8_lineAt_22 : decode cX8_lineAt 22 = .ok (.invokespecial 289, 3) := by decide +kernel
theorem dX8_lineAt_25 : decode cX8_lineAt 25 = .ok (.athrow, 1) := by decide +kernel
theorem dX8_lineAt_26 : decode cX8_lineAt 26 = .ok (.aload_n 0, 1) := by decide +kernel
theorem dX8_lineAt_27 : decode cX8_lineAt 27 = .ok (.getfield 50, 3) := by decide +kernel
theorem dX8_lineAt_30 : decode cX8_lineAt 30 = .ok (.iload_n 1, 1) := by decide +kernel
theorem dX8_lineAt_31 : decode cX8_lineAt 31 = .ok (.invokevirtual 295, 3) := by decide +kernel
theorem dX8_lineAt_34 : decode cX8_lineAt 34 = .ok (.ireturn, 1) := by decide +kernel
theorem dX8_meanAvalanche_0 : decode cX8_meanAvalanche 0 = .ok (.aload_n 0, 1) := by decide +kernel
theorem dX8_meanAvalanche_1 : decode cX8_meanAvalanche 1 = .ok (.getfield 10, 3) := by decide +kernel
theorem dX8_meanAvalanche_4 : decode cX8_meanAvalanche 4 = .ok (.getfield 208, 3) := by decide +kernel
theorem dX8_meanAvalanche_7 : decode cX8_meanAvalanche 7 = .ok (.ifCond .ne 14, 3) := by decide +kernel
theorem dX8_meanAvalanche_10 : decode cX8_meanAvalanche 10 = .ok (.new 200, 3) := by decide +kernel
theorem dX8_meanAvalanche_13 : decode cX8_meanAvalanche 13 = .ok (.dup, 1) := by decide +kernel
theorem dX8_meanAvalanche_14 : decode cX8_meanAvalanche 14 = .ok (.ldc_w 299, 3) := by decide +kernel
theorem dX8_meanAvalanche_17 : decode cX8_meanAvalanche 17 = .ok (.invokespecial 204, 3) := by decide +kernel
theorem dX8_meanAvalanche_20 : decode cX8_meanAvalanche 20 = .ok (.athrow, 1) := by decide +kernel
theorem dX8_meanAvalanche_21 : decode cX8_meanAvalanche 21 = .ok (.aload_n 0, 1) := by decide +kernel
theorem dX8_meanAvalanche_22 : decode cX8_meanAvalanche 22 = .ok (.getfield 10, 3) := by decide +kernel
theorem dX8_meanAvalanche_25 : decode cX8_meanAvalanche 25 = .ok (.getfield 205, 3) := by decide +kernel
theorem dX8_meanAvalanche_28 : decode cX8_meanAvalanche 28 = .ok (.i2d, 1) := by decide +kernel
theorem dX8_meanAvalanche_29 : decode cX8_meanAvalanche 29 = .ok (.aload_n 0, 1) := by decide +kernel
theorem dX8_meanAvalanche_30 : decode cX8_meanAvalanche 30 = .ok (.getfield 10, 3) := by decide +kernel
theorem dX8_meanAvalanche_33 : decode cX8_meanAvalanche 33 = .ok (.getfield 208, 3) := by decide +kernel
theorem dX8_meanAvalanche_36 : decode cX8_meanAvalanche 36 = .ok (.i2d, 1) := by decide +kernel
theorem dX8_meanAvalanche_37 : decode cX8_meanAvalanche 37 = .ok (.ddiv, 1) := by decide +kernel
theorem dX8_meanAvalanche_38 : decode cX8_meanAvalanche 38 = .ok (.dreturn, 1) := by decide +kernel
theorem dX8_isConsistent_0 : decode cX8_isConsistent 0 = .ok (.aload_n 0, 1) := by decide +kernel
theorem dX8_isConsistent_1 : decode cX8_isConsistent 1 = .ok (.getfield 10, 3) := by decide +kernel
theorem dX8_isConsistent_4 : decode cX8_isConsistent 4 = .ok (.getfield 119, 3) := by decide +kernel
theorem dX8_isConsistent_7 : decode cX8_isConsistent 7 = .ok (.invokevirtual 158, 3) := by decide +kernel
theorem dX8_isConsistent_10 : decode cX8_isConsistent 10 = .ok (.istore_n 1, 1) := by decide +kernel
theorem dX8_isConsistent_11 : decode cX8_isConsistent 11 = .ok (.aload_n 0, 1) := by decide +kernel
theorem dX8_isConsistent_12 : decode cX8_isConsistent 12 = .ok (.getfield 10, 3) := by decide +kernel
theorem dX8_isConsistent_15 : decode cX8_isConsistent 15 = .ok (.getfield 119, 3) := by decide +kernel
theorem dX8_isConsistent_18 : decode cX8_isConsistent 18 = .ok (.invokevirtual 301, 3) := by decide +kernel
theorem dX8_isConsistent_21 : decode cX8_isConsistent 21 = .ok (.iconst (-1), 1) := by decide +kernel
theorem dX8_isConsistent_22 : decode cX8_isConsistent 22 = .ok (.if_icmp .ne 68, 3) := by decide +kernel
theorem dX8_isConsistent_25 : decode cX8_isConsistent 25 = .ok (.iload_n 1, 1) := by decide +kernel
theorem dX8_isConsistent_26 : decode cX8_isConsistent 26 = .ok (.aload_n 0, 1) := by decide +kernel
theorem dX8_isConsistent_27 : decode cX8_isConsistent 27 = .ok (.getfield 10, 3) := by decide +kernel
theorem dX8_isConsistent_30 : decode cX8_isConsistent 30 = .ok (.getfield 119, 3) := by decide +kernel
theorem dX8_isConsistent_33 : decode cX8_isConsistent 33 = .ok (.invokevirtual 161, 3) := by decide +kernel
theorem dX8_isConsistent_36 : decode cX8_isConsistent 36 = .ok (.if_icmp .ne 54, 3) := by decide +kernel
theorem dX8_isConsistent_39 : decode cX8_isConsistent 39 = .ok (.aload_n 0, 1) := by decide +kernel
theorem dX8_isConsistent_40 : decode cX8_isConsistent 40 = .ok (.getfield 10, 3) := by decide +kernel
theorem dX8_isConsistent_43 : decode cX8_isConsistent 43 = .ok (.getfield 214, 3) := by decide +kernel
theorem dX8_isConsistent_46 : decode cX8_isConsistent 46 = .ok (.iload_n 1, 1) := by decide +kernel
theorem dX8_isConsistent_47 : decode cX8_isConsistent 47 = .ok (.aload_n 0, 1) := by decide +kernel
theorem dX8_isConsistent_48 : decode cX8_isConsistent 48 = .ok (.getfield 10, 3) := by decide +kernel
theorem dX8_isConsistent_51 : decode cX8_isConsistent 51 = .ok (.getfield 119, 3) := by decide +kernel
theorem dX8_isConsistent_54 : decode cX8_isConsistent 54 = .ok (.getfield 217, 3) := by decide +kernel
theorem dX8_isConsistent_57 : decode cX8_isConsistent 57 = .ok (.iadd, 1) := by decide +kernel
theorem dX8_isConsistent_58 : decode cX8_isConsistent 58 = .ok (.aload_n 0, 1) := by decide +kernel
theorem dX8_isConsistent_59 : decode cX8_isConsistent 59 = .ok (.getfield 10, 3) := by decide +kernel
theorem dX8_isConsistent_62 : decode cX8_isConsistent 62 = .ok (.getfield 220, 3) := by decide +kernel
theorem dX8_isConsistent_65 : decode cX8_isConsistent 65 = .ok (.iadd, 1) := by decide +kernel
theorem dX8_isConsistent_66 : decode cX8_isConsistent 66 = .ok (.if_icmp .ne 24, 3) := by decide +kernel
theorem dX8_isConsistent_69 : decode cX8_isConsistent 69 = .ok (.aload_n 0, 1) := by decide +kernel
theorem dX8_isConsistent_70 : decode cX8_isConsistent 70 = .ok (.iconst 1, 1) := by decide +kernel
theorem dX8_isConsistent_71 : decode cX8_isConsistent 71 = .ok (.invokevirtual 304, 3) := by decide +kernel
theorem dX8_isConsistent_74 : decode cX8_isConsistent 74 = .ok (.ifCond .eq 16, 3) := by decide +kernel
theorem dX8_isConsistent_77 : decode cX8_isConsistent 77 = .ok (.aload_n 0, 1) := by decide +kernel
theorem dX8_isConsistent_78 : decode cX8_isConsistent 78 = .ok (.bipush 9, 2) := by decide +kernel
theorem dX8_isConsistent_80 : decode cX8_isConsistent 80 = .ok (.invokevirtual 304, 3) := by decide +kernel
theorem dX8_isConsistent_83 : decode cX8_isConsistent 83 = .ok (.ifCond .eq 7, 3) := by decide +kernel
theorem dX8_isConsistent_86 : decode cX8_isConsistent 86 = .ok (.iconst 1, 1) := by decide +kernel
theorem dX8_isConsistent_87 : decode cX8_isConsistent 87 = .ok (.goto 4, 3) := by decide +kernel
theorem dX8_isConsistent_90 : decode cX8_isConsistent 90 = .ok (.iconst 0, 1) := by decide +kernel
theorem dX8_isConsistent_91 : decode cX8_isConsistent 91 = .ok (.ireturn, 1) := by decide +kernel
theorem dX8_undo_0 : decode cX8_undo 0 = .ok (.aload_n 0, 1) := by decide +kernel
theorem dX8_undo_1 : decode cX8_undo 1 = .ok (.getfield 307, 3) := by decide +kernel
theorem dX8_undo_4 : decode cX8_undo 4 = .ok (.ifCond .ne 14, 3) := by decide +kernel
theorem dX8_undo_7 : decode cX8_undo 7 = .ok (.new 234, 3) := by decide +kernel
theorem dX8_undo_10 : decode cX8_undo 10 = .ok (.dup, 1) := by decide +kernel
theorem dX8_undo_11 : decode cX8_undo 11 = .ok (.ldc_w 310, 3) := by decide +kernel
theorem dX8_undo_14 : decode cX8_undo 14 = .ok (.invokespecial 238, 3) := by decide +kernel
theorem dX8_undo_17 : decode cX8_undo 17 = .ok (.athrow, 1) := by decide +kernel
theorem dX8_undo_18 : decode cX8_undo 18 = .ok (.aload_n 0, 1) := by decide +kernel
theorem dX8_undo_19 : decode cX8_undo 19 = .ok (.dup, 1) := by decide +kernel
theorem dX8_undo_20 : decode cX8_undo 20 = .ok (.getfield 307, 3) := by decide +kernel
theorem dX8_undo_23 : decode cX8_undo 23 = .ok (.iconst 1, 1) := by decide +kernel
theorem dX8_undo_24 : decode cX8_undo 24 = .ok (.isub, 1) := by decide +kernel
theorem dX8_undo_25 : decode cX8_undo 25 = .ok (.putfield 307, 3) := by decide +kernel
theorem dX8_undo_28 : decode cX8_undo 28 = .ok (.aload_n 0, 1) := by decide +kernel
theorem dX8_undo_29 : decode cX8_undo 29 = .ok (.getfield 10, 3) := by decide +kernel
theorem dX8_undo_32 : decode cX8_undo 32 = .ok (.aload_n 0, 1) := by decide +kernel
theorem dX8_undo_33 : decode cX8_undo 33 = .ok (.getfield 22, 3) := by decide +kernel
theorem dX8_undo_36 : decode cX8_undo 36 = .ok (.aload_n 0, 1) := by decide +kernel
theorem dX8_undo_37 : decode cX8_undo 37 = .ok (.getfield 312, 3) := by decide +kernel
theorem dX8_undo_40 : decode cX8_undo 40 = .ok (.aload_n 0, 1) := by decide +kernel
theorem dX8_undo_41 : decode cX8_undo 41 = .ok (.getfield 307, 3) := by decide +kernel
theorem dX8_undo_44 : decode cX8_undo 44 = .ok (.iadd, 1) := by decide +kernel
theorem dX8_undo_45 : decode cX8_undo 45 = .ok (.bipush 8, 2) := by decide +kernel
theorem dX8_undo_47 : decode cX8_undo 47 = .ok (.irem, 1) := by decide +kernel
theorem dX8_undo_48 : decode cX8_undo 48 = .ok (.aaload, 1) := by decide +kernel
theorem dX8_undo_49 : decode cX8_undo 49 = .ok (.invokevirtual 255, 3) := by decide +kernel
theorem dX8_undo_52 : decode cX8_undo 52 = .ok (.aload_n 0, 1) := by decide +kernel
theorem dX8_undo_53 : decode cX8_undo 53 = .ok (.getfield 307, 3) := by decide +kernel
theorem dX8_undo_56 : decode cX8_undo 56 = .ok (.ireturn, 1) := by decide +kernel
theorem dX8_save_0 : decode cX8_save 0 = .ok (.aload_n 0, 1) := by decide +kernel
theorem dX8_save_1 : decode cX8_save 1 = .ok (.getfield 19, 3) := by decide +kernel
theorem dX8_save_4 : decode cX8_save 4 = .ok (.aload_n 0, 1) := by decide +kernel
theorem dX8_save_5 : decode cX8_save 5 = .ok (.getfield 10, 3) := by decide +kernel
theorem dX8_save_8 : decode cX8_save 8 = .ok (.invokevirtual 255, 3) := by decide +kernel
theorem dX8_save_11 : decode cX8_save 11 = .ok (.aload_n 0, 1) := by decide +kernel
theorem dX8_save_12 : decode cX8_save 12 = .ok (.iconst 1, 1) := by decide +kernel
theorem dX8_save_13 : decode cX8_save 13 = .ok (.putfield 315, 3) := by decide +kernel
theorem dX8_save_16 : decode cX8_save 16 = .ok (.aload_n 0, 1) := by decide +kernel
theorem dX8_save_17 : decode cX8_save 17 = .ok (.getfield 10, 3) := by decide +kernel
theorem dX8_save_20 : decode cX8_save 20 = .ok (.getfield 119, 3) := by decide +kernel
theorem dX8_save_23 : decode cX8_save 23 = .ok (.invokevirtual 158, 3) := by decide +kernel
theorem dX8_save_26 : decode cX8_save 26 = .ok (.ireturn, 1) := by decide +kernel
theorem dX8_restore_0 : decode cX8_restore 0 = .ok (.aload_n 0, 1) := by decide +kernel
theorem dX8_restore_1 : decode cX8_restore 1 = .ok (.getfield 315, 3) := by decide +kernel
theorem dX8_restore_4 : decode cX8_restore 4 = .ok (.ifCond .ne 14, 3) := by decide +kernel
theorem dX8_restore_7 : decode cX8_restore 7 = .ok (.new 234, 3) := by decide +kernel
theorem dX8_restore_10 : decode cX8_restore 10 = .ok (.dup, 1) := by decide +kernel
theorem dX8_restore_11 : decode cX8_restore 11 = .ok (.ldc_w 318, 3) := by decide +kernel
theorem dX8_restore_14 : decode cX8_restore 14 = .ok (.invokespecial 238, 3) := by decide +kernel
theorem dX8_restore_17 : decode cX8_restore 17 = .ok (.athrow, 1) := by decide +kernel
theorem dX8_restore_18 : decode cX8_restore 18 = .ok (.aload_n 0, 1) := by decide +kernel
theorem dX8_restore_19 : decode cX8_restore 19 = .ok (.getfield 10, 3) := by decide +kernel
theorem dX8_restore_22 : decode cX8_restore 22 = .ok (.aload_n 0, 1) := by decide +kernel
theorem dX8_restore_23 : decode cX8_restore 23 = .ok (.getfield 19, 3) := by decide +kernel
theorem dX8_restore_26 : decode cX8_restore 26 = .ok (.invokevirtual 255, 3) := by decide +kernel
theorem dX8_restore_29 : decode cX8_restore 29 = .ok (.aload_n 0, 1) := by decide +kernel
theorem dX8_restore_30 : decode cX8_restore 30 = .ok (.iconst 0, 1) := by decide +kernel
theorem dX8_restore_31 : decode cX8_restore 31 = .ok (.putfield 307, 3) := by decide +kernel
theorem dX8_restore_34 : decode cX8_restore 34 = .ok (.aload_n 0, 1) := by decide +kernel
theorem dX8_restore_35 : decode cX8_restore 35 = .ok (.getfield 10, 3) := by decide +kernel
theorem dX8_restore_38 : decode cX8_restore 38 = .ok (.getfield 119, 3) := by decide +kernel
theorem dX8_restore_41 : decode cX8_restore 41 = .ok (.invokevirtual 158, 3) := by decide +kernel
theorem dX8_restore_44 : decode cX8_restore 44 = .ok (.ireturn, 1) := by decide +kernel
theorem dX8_throwIfAny_0 : decode cX8_throwIfAny 0 = .ok (.aload_n 0, 1) := by decide +kernel
theorem dX8_throwIfAny_1 : decode cX8_throwIfAny 1 = .ok (.getstatic 320, 3) := by decide +kernel
theorem dX8_throwIfAny_4 : decode cX8_throwIfAny 4 = .ok (.if_acmp .ne 14, 3) := by decide +kernel
theorem dX8_throwIfAny_7 : decode cX8_throwIfAny 7 = .ok (.new 285, 3) := by decide +kernel
theorem dX8_throwIfAny_10 : decode cX8_throwIfAny 10 = .ok (.dup, 1) := by decide +kernel
theorem dX8_throwIfAny_11 : decode cX8_throwIfAny 11 = .ok (.ldc_w 323, 3) := by decide +kernel
theorem dX8_throwIfAny_14 : decode cX8_throwIfAny 14 = .ok (.invokespecial 289, 3) := by decide +kernel
theorem dX8_throwIfAny_17 : decode cX8_throwIfAny 17 = .ok (.athrow, 1) := by decide +kernel
theorem dX8_throwIfAny_18 : decode cX8_throwIfAny 18 = .ok (.aload_n 0, 1) := by decide +kernel
theorem dX8_throwIfAny_19 : decode cX8_throwIfAny 19 = .ok (.getstatic 325, 3) := by decide +kernel
theorem dX8_throwIfAny_22 : decode cX8_throwIfAny 22 = .ok (.if_acmp .ne 14, 3) := by decide +kernel
theorem dX8_throwIfAny_25 : decode cX8_throwIfAny 25 = .ok (.new 223, 3) := by decide +kernel
theorem dX8_throwIfAny_28 : decode cX8_throwIfAny 28 = .ok (.dup, 1) := by decide +kernel
theorem dX8_throwIfAny_29 : decode cX8_throwIfAny 29 = .ok (.ldc_w 328, 3) := by decide +kernel
theorem dX8_throwIfAny_32 : decode cX8_throwIfAny 32 = .ok (.invokespecial 227, 3) := by decide +kernel
theorem dX8_throwIfAny_35 : decode cX8_throwIfAny 35 = .ok (.athrow, 1) := by decide +kernel
theorem dX8_throwIfAny_36 : decode cX8_throwIfAny 36 = .ok (.aload_n 0, 1) := by decide +kernel
theorem dX8_throwIfAny_37 : decode cX8_throwIfAny 37 = .ok (.getstatic 330, 3) := by decide +kernel
theorem dX8_throwIfAny_40 : decode cX8_throwIfAny 40 = .ok (.if_acmp .ne 14, 3) := by decide +kernel
theorem dX8_throwIfAny_43 : decode cX8_throwIfAny 43 = .ok (.new 234, 3) := by decide +kernel
theorem dX8_throwIfAny_46 : decode cX8_throwIfAny 46 = .ok (.dup, 1) := by decide +kernel
theorem dX8_throwIfAny_47 : decode cX8_throwIfAny 47 = .ok (.ldc_w 333, 3) := by decide +kernel
theorem dX8_throwIfAny_50 : decode cX8_throwIfAny 50 = .ok (.invokespecial 238, 3) := by decide +kernel
theorem dX8_throwIfAny_53 : decode cX8_throwIfAny 53 = .ok (.athrow, 1) := by decide +kernel
theorem dX8_throwIfAny_54 : decode cX8_throwIfAny 54 = .ok (.aload_n 0, 1) := by decide +kernel
theorem dX8_throwIfAny_55 : decode cX8_throwIfAny 55 = .ok (.getstatic 335, 3) := by decide +kernel
theorem dX8_throwIfAny_58 : decode cX8_throwIfAny 58 = .ok (.if_acmp .ne 14, 3) := by decide +kernel
theorem dX8_throwIfAny_61 : decode cX8_throwIfAny 61 = .ok (.new 145, 3) := by decide +kernel
theorem dX8_throwIfAny_64 : decode cX8_throwIfAny 64 = .ok (.dup, 1) := by decide +kernel
theorem dX8_throwIfAny_65 : decode cX8_throwIfAny 65 = .ok (.ldc_w 338, 3) := by decide +kernel
theorem dX8_throwIfAny_68 : decode cX8_throwIfAny 68 = .ok (.invokespecial 149, 3) := by decide +kernel
theorem dX8_throwIfAny_71 : decode cX8_throwIfAny 71 = .ok (.athrow, 1) := by decide +kernel
theorem dX8_throwIfAny_72 : decode cX8_throwIfAny 72 = .ok (.aload_n 0, 1) := by decide +kernel
theorem dX8_throwIfAny_73 : decode cX8_throwIfAny 73 = .ok (.getstatic 340, 3) := by decide +kernel
theorem dX8_throwIfAny_76 : decode cX8_throwIfAny 76 = .ok (.if_acmp .ne 14, 3) := by decide +kernel
theorem dX8_throwIfAny_79 : decode cX8_throwIfAny 79 = .ok (.new 343, 3) := by decide +kernel
theorem dX8_throwIfAny_82 : decode cX8_throwIfAny 82 = .ok (.dup, 1) := by decide +kernel
theorem dX8_throwIfAny_83 : decode cX8_throwIfAny 83 = .ok (.ldc_w 345, 3) := by decide +kernel
theorem dX8_throwIfAny_86 : decode cX8_throwIfAny 86 = .ok (.invokespecial 347, 3) := by decide +kernel
theorem dX8_throwIfAny_89 : decode cX8_throwIfAny 89 = .ok (.athrow, 1) := by decide +kernel
theorem dX8_throwIfAny_90 : decode cX8_throwIfAny 90 = .ok (.return_, 1) := by decide +kernel
theorem dX8_requirePlayer_0 : decode cX8_requirePlayer 0 = .ok (.aload_n 0, 1) := by decide +kernel
theorem dX8_requirePlayer_1 : decode cX8_requirePlayer 1 = .ok (.getfield 10, 3) := by decide +kernel
theorem dX8_requirePlayer_4 : decode cX8_requirePlayer 4 = .ok (.iload_n 1, 1) := by decide +kernel
theorem dX8_requirePlayer_5 : decode cX8_requirePlayer 5 = .ok (.invokevirtual 348, 3) := by decide +kernel
theorem dX8_requirePlayer_8 : decode cX8_requirePlayer 8 = .ok (.ifCond .ne 14, 3) := by decide +kernel
theorem dX8_requirePlayer_11 : decode cX8_requirePlayer 11 = .ok (.new 285, 3) := by decide +kernel
theorem dX8_requirePlayer_14 : decode cX8_requirePlayer 14 = .ok (.dup, 1) := by decide +kernel
theorem dX8_requirePlayer_15 : decode cX8_requirePlayer 15 = .ok (.ldc_w 351, 3) := by decide +kernel
theorem dX8_requirePlayer_18 : decode cX8_requirePlayer 18 = .ok (.invokespecial 289, 3) := by decide +kernel
theorem dX8_requirePlayer_21 : decode cX8_requirePlayer 21 = .ok (.athrow, 1) := by decide +kernel
theorem dX8_requirePlayer_22 : decode cX8_requirePlayer 22 = .ok (.return_, 1) := by decide +kernel
theorem dX8_requireCell_0 : decode cX8_requireCell 0 = .ok (.iload_n 0, 1) := by decide +kernel
theorem dX8_requireCell_1 : decode cX8_requireCell 1 = .ok (.invokestatic 353, 3) := by decide +kernel
theorem dX8_requireCell_4 : decode cX8_requireCell 4 = .ok (.ifCond .ne 14, 3) := by decide +kernel
theorem dX8_requireCell_7 : decode cX8_requireCell 7 = .ok (.new 285, 3) := by decide +kernel
theorem dX8_requireCell_10 : decode cX8_requireCell 10 = .ok (.dup, 1) := by decide +kernel
theorem dX8_requireCell_11 : decode cX8_requireCell 11 = .ok (.ldc_w 356, 3) := by decide +kernel
theorem dX8_requireCell_14 : decode cX8_requireCell 14 = .ok (.invokespecial 289, 3) := by decide +kernel
theorem dX8_requireCell_17 : decode cX8_requireCell 17 = .ok (.athrow, 1) := by decide +kernel
theorem dX8_requireCell_18 : decode cX8_requireCell 18 = .ok (.return_, 1) := by decide +kernel
theorem dX8_requireStones_0 : decode cX8_requireStones 0 = .ok (.iload_n 0, 1) := by decide +kernel
theorem dX8_requireStones_1 : decode cX8_requireStones 1 = .ok (.invokestatic 358, 3) := by decide +kernel
theorem dX8_requireStones_4 : decode cX8_requireStones 4 = .ok (.ifCond .ne 14, 3) := by decide +kernel
theorem dX8_requireStones_7 : decode cX8_requireStones 7 = .ok (.new 223, 3) := by decide +kernel
theorem dX8_requireStones_10 : decode cX8_requireStones 10 = .ok (.dup, 1) := by decide +kernel
theorem dX8_requireStones_11 : decode cX8_requireStones 11 = .ok (.ldc_w 361, 3) := by decide +kernel
theorem dX8_requireStones_14 : decode cX8_requireStones 14 = .ok (.invokespecial 227, 3) := by decide +kernel
theorem dX8_requireStones_17 : decode cX8_requireStones 17 = .ok (.athrow, 1) := by decide +kernel
theorem dX8_requireStones_18 : decode cX8_requireStones 18 = .ok (.return_, 1) := by decide +kernel
theorem dX8_isCell_0 : decode cX8_isCell 0 = .ok (.iload_n 0, 1) := by decide +kernel
theorem dX8_isCell_1 : decode cX8_isCell 1 = .ok (.ifCond .lt 13, 3) := by decide +kernel
theorem dX8_isCell_4 : decode cX8_isCell 4 = .ok (.iload_n 0, 1) := by decide +kernel
theorem dX8_isCell_5 : decode cX8_isCell 5 = .ok (.bipush 25, 2) := by decide +kernel
theorem dX8_isCell_7 : decode cX8_isCell 7 = .ok (.if_icmp .ge 7, 3) := by decide +kernel
theorem dX8_isCell_10 : decode cX8_isCell 10 = .ok (.iconst 1, 1) := by decide +kernel
theorem dX8_isCell_11 : decode cX8_isCell 11 = .ok (.goto 4, 3) := by decide +kernel
theorem dX8_isCell_14 : decode cX8_isCell 14 = .ok (.iconst 0, 1) := by decide +kernel
theorem dX8_isCell_15 : decode cX8_isCell 15 = .ok (.ireturn, 1) := by decide +kernel
theorem dX8_isPlaceable_0 : decode cX8_isPlaceable 0 = .ok (.iload_n 0, 1) := by decide +kernel
theorem dX8_isPlaceable_1 : decode cX8_isPlaceable 1 = .ok (.iconst 1, 1) := by decide +kernel
theorem dX8_isPlaceable_2 : decode cX8_isPlaceable 2 = .ok (.if_icmp .lt 13, 3) := by decide +kernel
theorem dX8_isPlaceable_5 : decode cX8_isPlaceable 5 = .ok (.iload_n 0, 1) := by decide +kernel
theorem dX8_isPlaceable_6 : decode cX8_isPlaceable 6 = .ok (.bipush 9, 2) := by decide +kernel
theorem dX8_isPlaceable_8 : decode cX8_isPlaceable 8 = .ok (.if_icmp .gt 7, 3) := by decide +kernel
theorem dX8_isPlaceable_11 : decode cX8_isPlaceable 11 = .ok (.iconst 1, 1) := by decide +kernel
theorem dX8_isPlaceable_12 : decode cX8_isPlaceable 12 = .ok (.goto 4, 3) := by decide +kernel
theorem dX8_isPlaceable_15 : decode cX8_isPlaceable 15 = .ok (.iconst 0, 1) := by decide +kernel
theorem dX8_isPlaceable_16 : decode cX8_isPlaceable 16 = .ok (.ireturn, 1) := by decide +kernel
theorem dX8_keepForUndo_0 : decode cX8_keepForUndo 0 = .ok (.aload_n 0, 1) := by decide +kernel
theorem dX8_keepForUndo_1 : decode cX8_keepForUndo 1 = .ok (.getfield 22, 3) := by decide +kernel
theorem dX8_keepForUndo_4 : decode cX8_keepForUndo 4 = .ok (.aload_n 0, 1) := by decide +kernel
theorem dX8_keepForUndo_5 : decode cX8_keepForUndo 5 = .ok (.getfield 312, 3) := by decide +kernel
theorem dX8_keepForUndo_8 : decode cX8_keepForUndo 8 = .ok (.aload_n 0, 1) := by decide +kernel
theorem dX8_keepForUndo_9 : decode cX8_keepForUndo 9 = .ok (.getfield 307, 3) := by decide +kernel
theorem dX8_keepForUndo_12 : decode cX8_keepForUndo 12 = .ok (.iadd, 1) := by decide +kernel
theorem dX8_keepForUndo_13 : decode cX8_keepForUndo 13 = .ok (.bipush 8, 2) := by decide +kernel
theorem dX8_keepForUndo_15 : decode cX8_keepForUndo 15 = .ok (.irem, 1) := by decide +kernel
theorem dX8_keepForUndo_16 : decode cX8_keepForUndo 16 = .ok (.aaload, 1) := by decide +kernel
theorem dX8_keepForUndo_17 : decode cX8_keepForUndo 17 = .ok (.aload_n 1, 1) := by decide +kernel
theorem dX8_keepForUndo_18 : decode cX8_keepForUndo 18 = .ok (.invokevirtual 255, 3) := by decide +kernel
theorem dX8_keepForUndo_21 : decode cX8_keepForUndo 21 = .ok (.aload_n 0, 1) := by decide +kernel
theorem dX8_keepForUndo_22 : decode cX8_keepForUndo 22 = .ok (.getfield 307, 3) := by decide +kernel
theorem dX8_keepForUndo_25 : decode cX8_keepForUndo 25 = .ok (.bipush 8, 2) := by decide +kernel
theorem dX8_keepForUndo_27 : decode cX8_keepForUndo 27 = .ok (.if_icmp .ge 16, 3) := by decide +kernel
theorem dX8_keepForUndo_30 : decode cX8_keepForUndo 30 = .ok (.aload_n 0, 1) := by decide +kernel
theorem dX8_keepForUndo_31 : decode cX8_keepForUndo 31 = .ok (.dup, 1) := by decide +kernel
theorem dX8_keepForUndo_32 : decode cX8_keepForUndo 32 = .ok (.getfield 307, 3) := by decide +kernel
theorem dX8_keepForUndo_35 : decode cX8_keepForUndo 35 = .ok (.iconst 1, 1) := by decide +kernel
theorem dX8_keepForUndo_36 : decode cX8_keepForUndo 36 = .ok (.iadd, 1) := by decide +kernel
theorem dX8_keepForUndo_37 : decode cX8_keepForUndo 37 = .ok (.putfield 307, 3) := by decide +kernel
theorem dX8_keepForUndo_40 : decode cX8_keepForUndo 40 = .ok (.goto 16, 3) := by decide +kernel
theorem dX8_keepForUndo_43 : decode cX8_keepForUndo 43 = .ok (.aload_n 0, 1) := by decide +kernel
theorem dX8_keepForUndo_44 : decode cX8_keepForUndo 44 = .ok (.aload_n 0, 1) := by decide +kernel
theorem dX8_keepForUndo_45 : decode cX8_keepForUndo 45 = .ok (.getfield 312, 3) := by decide +kernel
theorem dX8_keepForUndo_48 : decode cX8_keepForUndo 48 = .ok (.iconst 1, 1) := by decide +kernel
theorem dX8_keepForUndo_49 : decode cX8_keepForUndo 49 = .ok (.iadd, 1) := by decide +kernel
theorem dX8_keepForUndo_50 : decode cX8_keepForUndo 50 = .ok (.bipush 8, 2) := by decide +kernel
theorem dX8_keepForUndo_52 : decode cX8_keepForUndo 52 = .ok (.irem, 1) := by decide +kernel
theorem dX8_keepForUndo_53 : decode cX8_keepForUndo 53 = .ok (.putfield 312, 3) := by decide +kernel
theorem dX8_keepForUndo_56 : decode cX8_keepForUndo 56 = .ok (.return_, 1) := by decide +kernel
theorem dX8_faultOf_0 : decode cX8_faultOf 0 = .ok (.getstatic 363, 3) := by decide +kernel
theorem dX8_faultOf_3 : decode cX8_faultOf 3 = .ok (.aload_n 1, 1) := by decide +kernel
theorem dX8_faultOf_4 : decode cX8_faultOf 4 = .ok (.getfield 368, 3) := by decide +kernel
theorem dX8_faultOf_7 : decode cX8_faultOf 7 = .ok (.invokevirtual 374, 3) := by decide +kernel
theorem dX8_faultOf_10 : decode cX8_faultOf 10 = .ok (.iaload, 1) := by decide +kernel
theorem dX8_faultOf_11 : decode cX8_faultOf 11 = .ok (.tableswitch 109 1 5 #[33, 45, 65, 81, 97], 33) := by decide +kernel
theorem dX8_faultOf_44 : decode cX8_faultOf 44 = .ok (.aload_n 0, 1) := by decide +kernel
theorem dX8_faultOf_45 : decode cX8_faultOf 45 = .ok (.getfield 10, 3) := by decide +kernel
theorem dX8_faultOf_48 : decode cX8_faultOf 48 = .ok (.aload_n 1, 1) := by decide +kernel
theorem dX8_faultOf_49 : decode cX8_faultOf 49 = .ok (.getfield 379, 3) := by decide +kernel
theorem dX8_faultOf_52 : decode cX8_faultOf 52 = .ok (.invokevirtual 54, 3) := by decide +kernel
theorem dX8_faultOf_55 : decode cX8_faultOf 55 = .ok (.areturn, 1) := by decide +kernel
theorem dX8_faultOf_56 : decode cX8_faultOf 56 = .ok (.aload_n 0, 1) := by decide +kernel
theorem dX8_faultOf_57 : decode cX8_faultOf 57 = .ok (.getfield 10, 3) := by decide +kernel
theorem dX8_faultOf_60 : decode cX8_faultOf 60 = .ok (.aload_n 1, 1) := by decide +kernel
theorem dX8_faultOf_61 : decode cX8_faultOf 61 = .ok (.getfield 379, 3) := by decide +kernel
theorem dX8_faultOf_64 : decode cX8_faultOf 64 = .ok (.aload_n 1, 1) := by decide +kernel
theorem dX8_faultOf_65 : decode cX8_faultOf 65 = .ok (.getfield 382, 3) := by decide +kernel
theorem dX8_faultOf_68 : decode cX8_faultOf 68 = .ok (.aload_n 1, 1) := by decide +kernel
theorem dX8_faultOf_69 : decode cX8_faultOf 69 = .ok (.getfield 385, 3) := by decide +kernel
theorem dX8_faultOf_72 : decode cX8_faultOf 72 = .ok (.invokevirtual 70, 3) := by decide +kernel
theorem dX8_faultOf_75 : decode cX8_faultOf 75 = .ok (.areturn, 1) := by decide +kernel
theorem dX8_faultOf_76 : decode cX8_faultOf 76 = .ok (.aload_n 0, 1) := by decide +kernel
theorem dX8_faultOf_77 : decode cX8_faultOf 77 = .ok (.getfield 10, 3) := by decide +kernel
theorem dX8_faultOf_80 : decode cX8_faultOf 80 = .ok (.aload_n 1, 1) := by decide +kernel
theorem dX8_faultOf_81 : decode cX8_faultOf 81 = .ok (.getfield 379, 3) := by decide +kernel
theorem dX8_faultOf_84 : decode cX8_faultOf 84 = .ok (.aload_n 1, 1) := by decide +kernel
theorem dX8_faultOf_85 : decode cX8_faultOf 85 = .ok (.getfield 382, 3) := by decide +kernel
theorem dX8_faultOf_88 : decode cX8_faultOf 88 = .ok (.invokevirtual 78, 3) := by decide +kernel
theorem dX8_faultOf_91 : decode cX8_faultOf 91 = .ok (.areturn, 1) := by decide +kernel
theorem dX8_faultOf_92 : decode cX8_faultOf 92 = .ok (.aload_n 0, 1) := by decide +kernel
theorem dX8_faultOf_93 : decode cX8_faultOf 93 = .ok (.getfield 10, 3) := by decide +kernel
theorem dX8_faultOf_96 : decode cX8_faultOf 96 = .ok (.aload_n 1, 1) := by decide +kernel
theorem dX8_faultOf_97 : decode cX8_faultOf 97 = .ok (.getfield 379, 3) := by decide +kernel
theorem dX8_faultOf_100 : decode cX8_faultOf 100 = .ok (.aload_n 1, 1) := by decide +kernel
theorem dX8_faultOf_101 : decode cX8_faultOf 101 = .ok (.getfield 382, 3) := by decide +kernel
theorem dX8_faultOf_104 : decode cX8_faultOf 104 = .ok (.invokevirtual 86, 3) := by decide +kernel
theorem dX8_faultOf_107 : decode cX8_faultOf 107 = .ok (.areturn, 1) := by decide +kernel
theorem dX8_faultOf_108 : decode cX8_faultOf 108 = .ok (.aload_n 0, 1) := by decide +kernel
theorem dX8_faultOf_109 : decode cX8_faultOf 109 = .ok (.getfield 10, 3) := by decide +kernel
theorem dX8_faultOf_112 : decode cX8_faultOf 112 = .ok (.aload_n 1, 1) := by decide +kernel
theorem dX8_faultOf_113 : decode cX8_faultOf 113 = .ok (.getfield 379, 3) := by decide +kernel
theorem dX8_faultOf_116 : decode cX8_faultOf 116 = .ok (.invokevirtual 113, 3) := by decide +kernel
theorem dX8_faultOf_119 : decode cX8_faultOf 119 = .ok (.areturn, 1) := by decide +kernel
theorem dX8_faultOf_120 : decode cX8_faultOf 120 = .ok (.getstatic 269, 3) := by decide +kernel
theorem dX8_faultOf_123 : decode cX8_faultOf 123 = .ok (.areturn, 1) := by decide +kernel
theorem dX8_carryOut_0 : decode cX8_carryOut 0 = .ok (.getstatic 363, 3) := by decide +kernel
theorem dX8_carryOut_3 : decode cX8_carryOut 3 = .ok (.aload_n 1, 1) := by decide +kernel
theorem dX8_carryOut_4 : decode cX8_carryOut 4 = .ok (.getfield 368, 3) := by decide +kernel
theorem dX8_carryOut_7 : decode cX8_carryOut 7 = .ok (.invokevirtual 374, 3) := by decide +kernel
theorem dX8_carryOut_10 : decode cX8_carryOut 10 = .ok (.iaload, 1) := by decide +kernel
theorem dX8_carryOut_11 : decode cX8_carryOut 11 = .ok (.tableswitch 139 1 6 #[37, 52, 75, 94, 124, 113], 37) := by decide +kernel
theorem dX8_carryOut_48 : decode cX8_carryOut 48 = .ok (.aload_n 0, 1) := by decide +kernel
theorem dX8_carryOut_49 : decode cX8_carryOut 49 = .ok (.getfield 10, 3) := by decide +kernel
theorem dX8_carryOut_52 : decode cX8_carryOut 52 = .ok (.aload_n 1, 1) := by decide +kernel
theorem dX8_carryOut_53 : decode cX8_carryOut 53 = .ok (.getfield 379, 3) := by decide +kernel
theorem dX8_carryOut_56 : decode cX8_carryOut 56 = .ok (.invokevirtual 66, 3) := by decide +kernel
theorem dX8_carryOut_59 : decode cX8_carryOut 59 = .ok (.pop, 1) := by decide +kernel
theorem dX8_carryOut_60 : decode cX8_carryOut 60 = .ok (.goto 112, 3) := by decide +kernel
theorem dX8_carryOut_63 : decode cX8_carryOut 63 = .ok (.aload_n 0, 1) := by decide +kernel
theorem dX8_carryOut_64 : decode cX8_carryOut 64 = .ok (.getfield 10, 3) := by decide +kernel
theorem dX8_carryOut_67 : decode cX8_carryOut 67 = .ok (.aload_n 1, 1) := by decide +kernel
theorem dX8_carryOut_68 : decode cX8_carryOut 68 = .ok (.getfield 379, 3) := by decide +kernel
theorem dX8_carryOut_71 : decode cX8_carryOut 71 = .ok (.aload_n 1, 1) := by decide +kernel
theorem dX8_carryOut_72 : decode cX8_carryOut 72 = .ok (.getfield 382, 3) := by decide +kernel
theorem dX8_carryOut_75 : decode cX8_carryOut 75 = .ok (.aload_n 1, 1) := by decide +kernel
theorem dX8_carryOut_76 : decode cX8_carryOut 76 = .ok (.getfield 385, 3) := by decide +kernel
theorem dX8_carryOut_79 : decode cX8_carryOut 79 = .ok (.invokevirtual 74, 3) := by decide +kernel
theorem dX8_carryOut_82 : decode cX8_carryOut 82 = .ok (.pop, 1) := by decide +kernel
theorem dX8_carryOut_83 : decode cX8_carryOut 83 = .ok (.goto 89, 3) := by decide +kernel
theorem dX8_carryOut_86 : decode cX8_carryOut 86 = .ok (.aload_n 0, 1) := by decide +kernel
theorem dX8_carryOut_87 : decode cX8_carryOut 87 = .ok (.getfield 10, 3) := by decide +kernel
theorem dX8_carryOut_90 : decode cX8_carryOut 90 = .ok (.aload_n 1, 1) := by decide +kernel
theorem dX8_carryOut_91 : decode cX8_carryOut 91 = .ok (.getfield 379, 3) := by decide +kernel
theorem dX8_carryOut_94 : decode cX8_carryOut 94 = .ok (.aload_n 1, 1) := by decide +kernel
theorem dX8_carryOut_95 : decode cX8_carryOut 95 = .ok (.getfield 382, 3) := by decide +kernel
theorem dX8_carryOut_98 : decode cX8_carryOut 98 = .ok (.invokevirtual 82, 3) := by decide +kernel
theorem dX8_carryOut_101 : decode cX8_carryOut 101 = .ok (.pop, 1) := by decide +kernel
theorem dX8_carryOut_102 : decode cX8_carryOut 102 = .ok (.goto 70, 3) := by decide +kernel
theorem dX8_carryOut_105 : decode cX8_carryOut 105 = .ok (.aload_n 0, 1) := by decide +kernel
theorem dX8_carryOut_106 : decode cX8_carryOut 106 = .ok (.getfield 10, 3) := by decide +kernel
theorem dX8_carryOut_109 : decode cX8_carryOut 109 = .ok (.aload_n 1, 1) := by decide +kernel
theorem dX8_carryOut_110 : decode cX8_carryOut 110 = .ok (.getfield 379, 3) := by decide +kernel
theorem dX8_carryOut_113 : decode cX8_carryOut 113 = .ok (.aload_n 1, 1) := by decide +kernel
theorem dX8_carryOut_114 : decode cX8_carryOut 114 = .ok (.getfield 382, 3) := by decide +kernel
theorem dX8_carryOut_117 : decode cX8_carryOut 117 = .ok (.invokevirtual 89, 3) := by decide +kernel
theorem dX8_carryOut_120 : decode cX8_carryOut 120 = .ok (.pop, 1) := by decide +kernel
theorem dX8_carryOut_121 : decode cX8_carryOut 121 = .ok (.goto 51, 3) := by decide +kernel
theorem dX8_carryOut_124 : decode cX8_carryOut 124 = .ok (.aload_n 0, 1) := by decide +kernel
theorem dX8_carryOut_125 : decode cX8_carryOut 125 = .ok (.getfield 10, 3) := by decide +kernel
theorem dX8_carryOut_128 : decode cX8_carryOut 128 = .ok (.iconst (-1), 1) := by decide +kernel
theorem dX8_carryOut_129 : decode cX8_carryOut 129 = .ok (.invokevirtual 92, 3) := by decide +kernel
theorem dX8_carryOut_132 : decode cX8_carryOut 132 = .ok (.goto 40, 3) := by decide +kernel
theorem dX8_carryOut_135 : decode cX8_carryOut 135 = .ok (.aload_n 0, 1) := by decide +kernel
theorem dX8_carryOut_136 : decode cX8_carryOut 136 = .ok (.getfield 10, 3) := by decide +kernel
theorem dX8_carryOut_139 : decode cX8_carryOut 139 = .ok (.aload_n 1, 1) := by decide +kernel
theorem dX8_carryOut_140 : decode cX8_carryOut 140 = .ok (.getfield 379, 3) := by decide +kernel
theorem dX8_carryOut_143 : decode cX8_carryOut 143 = .ok (.invokevirtual 116, 3) := by decide +kernel
theorem dX8_carryOut_146 : decode cX8_carryOut 146 = .ok (.pop, 1) := by decide +kernel
theorem dX8_carryOut_147 : decode cX8_carryOut 147 = .ok (.goto 25, 3) := by decide +kernel
theorem dX8_carryOut_150 : decode cX8_carryOut 150 = .ok (.aload_n 0, 1) := by decide +kernel
theorem dX8_carryOut_151 : decode cX8_carryOut 151 = .ok (.getfield 10, 3) := by decide +kernel
theorem dX8_carryOut_154 : decode cX8_carryOut 154 = .ok (.aload_n 1, 1) := by decide +kernel
theorem dX8_carryOut_155 : decode cX8_carryOut 155 = .ok (.getfield 368, 3) := by decide +kernel
theorem dX8_carryOut_158 : decode cX8_carryOut 158 = .ok (.getstatic 388, 3) := by decide +kernel
theorem dX8_carryOut_161 : decode cX8_carryOut 161 = .ok (.if_acmp .ne 7, 3) := by decide +kernel
theorem dX8_carryOut_164 : decode cX8_carryOut 164 = .ok (.iconst 1, 1) := by decide +kernel
theorem dX8_carryOut_165 : decode cX8_carryOut 165 = .ok (.goto 4, 3) := by decide +kernel
theorem dX8_carryOut_168 : decode cX8_carryOut 168 = .ok (.iconst 0, 1) := by decide +kernel
theorem dX8_carryOut_169 : decode cX8_carryOut 169 = .ok (.invokevirtual 129, 3) := by decide +kernel
theorem dX8_carryOut_172 : decode cX8_carryOut 172 = .ok (.return_, 1) := by decide +kernel
theorem dX8_doTrialsAgree_0 : decode cX8_doTrialsAgree 0 = .ok (.iconst 0, 1) := by decide +kernel
theorem dX8_doTrialsAgree_1 : decode cX8_doTrialsAgree 1 = .ok (.istore_n 2, 1) := by decide +kernel
theorem dX8_doTrialsAgree_2 : decode cX8_doTrialsAgree 2 = .ok (.iload_n 2, 1) := by decide +kernel
theorem dX8_doTrialsAgree_3 : decode cX8_doTrialsAgree 3 = .ok (.bipush 25, 2) := by decide +kernel
theorem dX8_doTrialsAgree_5 : decode cX8_doTrialsAgree 5 = .ok (.if_icmp .ge 48, 3) := by decide +kernel
theorem dX8_doTrialsAgree_8 : decode cX8_doTrialsAgree 8 = .ok (.aload_n 0, 1) := by decide +kernel
theorem dX8_doTrialsAgree_9 : decode cX8_doTrialsAgree 9 = .ok (.getfield 29, 3) := by decide +kernel
theorem dX8_doTrialsAgree_12 : decode cX8_doTrialsAgree 12 = .ok (.aload_n 0, 1) := by decide +kernel
theorem dX8_doTrialsAgree_13 : decode cX8_doTrialsAgree 13 = .ok (.getfield 10, 3) := by decide +kernel
theorem dX8_doTrialsAgree_16 : decode cX8_doTrialsAgree 16 = .ok (.getfield 119, 3) := by decide +kernel
theorem dX8_doTrialsAgree_19 : decode cX8_doTrialsAgree 19 = .ok (.iload_n 2, 1) := by decide +kernel
theorem dX8_doTrialsAgree_20 : decode cX8_doTrialsAgree 20 = .ok (.iload_n 1, 1) := by decide +kernel
theorem dX8_doTrialsAgree_21 : decode cX8_doTrialsAgree 21 = .ok (.invokevirtual 170, 3) := by decide +kernel
theorem dX8_doTrialsAgree_24 : decode cX8_doTrialsAgree 24 = .ok (.istore_n 3, 1) := by decide +kernel
theorem dX8_doTrialsAgree_25 : decode cX8_doTrialsAgree 25 = .ok (.iload_n 3, 1) := by decide +kernel
theorem dX8_doTrialsAgree_26 : decode cX8_doTrialsAgree 26 = .ok (.aload_n 0, 1) := by decide +kernel
theorem dX8_doTrialsAgree_27 : decode cX8_doTrialsAgree 27 = .ok (.getfield 29, 3) := by decide +kernel
theorem dX8_doTrialsAgree_30 : decode cX8_doTrialsAgree 30 = .ok (.aload_n 0, 1) := by decide +kernel
theorem dX8_doTrialsAgree_31 : decode cX8_doTrialsAgree 31 = .ok (.getfield 10, 3) := by decide +kernel
theorem dX8_doTrialsAgree_34 : decode cX8_doTrialsAgree 34 = .ok (.getfield 119, 3) := by decide +kernel
theorem dX8_doTrialsAgree_37 : decode cX8_doTrialsAgree 37 = .ok (.iload_n 2, 1) := by decide +kernel
theorem dX8_doTrialsAgree_38 : decode cX8_doTrialsAgree 38 = .ok (.iload_n 1, 1) := by decide +kernel
theorem dX8_doTrialsAgree_39 : decode cX8_doTrialsAgree 39 = .ok (.invokevirtual 174, 3) := by decide +kernel
theorem dX8_doTrialsAgree_42 : decode cX8_doTrialsAgree 42 = .ok (.if_icmp .eq 5, 3) := by decide +kernel
theorem dX8_doTrialsAgree_45 : decode cX8_doTrialsAgree 45 = .ok (.iconst 0, 1) := by decide +kernel
theorem dX8_doTrialsAgree_46 : decode cX8_doTrialsAgree 46 = .ok (.ireturn, 1) := by decide +kernel
theorem dX8_doTrialsAgree_47 : decode cX8_doTrialsAgree 47 = .ok (.iinc 2 1, 3) := by decide +kernel
theorem dX8_doTrialsAgree_50 : decode cX8_doTrialsAgree 50 = .ok (.goto (-48), 3) := by decide +kernel
theorem dX8_doTrialsAgree_53 : decode cX8_doTrialsAgree 53 = .ok (.iconst 1, 1) := by decide +kernel
theorem dX8_doTrialsAgree_54 : decode cX8_doTrialsAgree 54 = .ok (.ireturn, 1) := by decide +kernel
theorem dX8_writeCell_0 : decode cX8_writeCell 0 = .ok (.aload_n 0, 1) := by decide +kernel
theorem dX8_writeCell_1 : decode cX8_writeCell 1 = .ok (.getfield 50, 3) := by decide +kernel
theorem dX8_writeCell_4 : decode cX8_writeCell 4 = .ok (.aload_n 0, 1) := by decide +kernel
theorem dX8_writeCell_5 : decode cX8_writeCell 5 = .ok (.getfield 10, 3) := by decide +kernel
theorem dX8_writeCell_8 : decode cX8_writeCell 8 = .ok (.getfield 119, 3) := by decide +kernel
theorem dX8_writeCell_11 : decode cX8_writeCell 11 = .ok (.getfield 139, 3) := by decide +kernel
theorem dX8_writeCell_14 : decode cX8_writeCell 14 = .ok (.iload_n 1, 1) := by decide +kernel
theorem dX8_writeCell_15 : decode cX8_writeCell 15 = .ok (.iaload, 1) := by decide +kernel
theorem dX8_writeCell_16 : decode cX8_writeCell 16 = .ok (.invokevirtual 391, 3) := by decide +kernel
theorem dX8_writeCell_19 : decode cX8_writeCell 19 = .ok (.pop, 1) := by decide +kernel
theorem dX8_writeCell_20 : decode cX8_writeCell 20 = .ok (.aload_n 0, 1) := by decide +kernel
theorem dX8_writeCell_21 : decode cX8_writeCell 21 = .ok (.getfield 10, 3) := by decide +kernel
theorem dX8_writeCell_24 : decode cX8_writeCell 24 = .ok (.getfield 119, 3) := by decide +kernel
theorem dX8_writeCell_27 : decode cX8_writeCell 27 = .ok (.getfield 142, 3) := by decide +kernel
theorem dX8_writeCell_30 : decode cX8_writeCell 30 = .ok (.iload_n 1, 1) := by decide +kernel
theorem dX8_writeCell_31 : decode cX8_writeCell 31 = .ok (.iaload, 1) := by decide +kernel
theorem dX8_writeCell_32 : decode cX8_writeCell 32 = .ok (.iconst (-1), 1) := by decide +kernel
theorem dX8_writeCell_33 : decode cX8_writeCell 33 = .ok (.if_icmp .eq 27, 3) := by decide +kernel
theorem dX8_writeCell_36 : decode cX8_writeCell 36 = .ok (.aload_n 0, 1) := by decide +kernel
theorem dX8_writeCell_37 : decode cX8_writeCell 37 = .ok (.getfield 50, 3) := by decide +kernel
theorem dX8_writeCell_40 : decode cX8_writeCell 40 = .ok (.bipush 97, 2) := by decide +kernel
theorem dX8_writeCell_42 : decode cX8_writeCell 42 = .ok (.aload_n 0, 1) := by decide +kernel
theorem dX8_writeCell_43 : decode cX8_writeCell 43 = .ok (.getfield 10, 3) := by decide +kernel
theorem dX8_writeCell_46 : decode cX8_writeCell 46 = .ok (.getfield 119, 3) := by decide +kernel
theorem dX8_writeCell_49 : decode cX8_writeCell 49 = .ok (.getfield 142, 3) := by decide +kernel
theorem dX8_writeCell_52 : decode cX8_writeCell 52 = .ok (.iload_n 1, 1) := by decide +kernel
theorem dX8_writeCell_53 : decode cX8_writeCell 53 = .ok (.iaload, 1) := by decide +kernel
theorem dX8_writeCell_54 : decode cX8_writeCell 54 = .ok (.iadd, 1) := by decide +kernel
theorem dX8_writeCell_55 : decode cX8_writeCell 55 = .ok (.i2c, 1) := by decide +kernel
theorem dX8_writeCell_56 : decode cX8_writeCell 56 = .ok (.invokevirtual 239, 3) := by decide +kernel
theorem dX8_writeCell_59 : decode cX8_writeCell 59 = .ok (.pop, 1) := by decide +kernel
theorem dX8_writeCell_60 : decode cX8_writeCell 60 = .ok (.aload_n 0, 1) := by decide +kernel
theorem dX8_writeCell_61 : decode cX8_writeCell 61 = .ok (.getfield 10, 3) := by decide +kernel
theorem dX8_writeCell_64 : decode cX8_writeCell 64 = .ok (.getfield 119, 3) := by decide +kernel
theorem dX8_writeCell_67 : decode cX8_writeCell 67 = .ok (.iload_n 1, 1) := by decide +kernel
theorem dX8_writeCell_68 : decode cX8_writeCell 68 = .ok (.invokevirtual 177, 3) := by decide +kernel
theorem dX8_writeCell_71 : decode cX8_writeCell 71 = .ok (.ifCond .eq 13, 3) := by decide +kernel
theorem dX8_writeCell_74 : decode cX8_writeCell 74 = .ok (.aload_n 0, 1) := by decide +kernel
theorem dX8_writeCell_75 : decode cX8_writeCell 75 = .ok (.getfield 50, 3) := by decide +kernel
theorem dX8_writeCell_78 : decode cX8_writeCell 78 = .ok (.bipush 42, 2) := by decide +kernel
theorem dX8_writeCell_80 : decode cX8_writeCell 80 = .ok (.invokevirtual 239, 3) := by decide +kernel
theorem dX8_writeCell_83 : decode cX8_writeCell 83 = .ok (.pop, 1) := by decide +kernel
theorem dX8_writeCell_84 : decode cX8_writeCell 84 = .ok (.return_, 1) := by decide +kernel
