/-! decode rows, written by wip/gen/names.py -/
theorem d_MA_init_0 : decode b_MA_init 0 = .ok (.aload_n 0, 1) := by decide +kernel
theorem d_MA_init_1 : decode b_MA_init 1 = .ok (.invokespecial 3, 3) := by decide +kernel
theorem d_MA_init_4 : decode b_MA_init 4 = .ok (.aload_n 0, 1) := by decide +kernel
theorem d_MA_init_5 : decode b_MA_init 5 = .ok (.iconst 4, 1) := by decide +kernel
theorem d_MA_init_6 : decode b_MA_init 6 = .ok (.anewarray 9, 3) := by decide +kernel
theorem d_MA_init_9 : decode b_MA_init 9 = .ok (.putfield 11, 3) := by decide +kernel
theorem d_MA_init_12 : decode b_MA_init 12 = .ok (.aload_n 0, 1) := by decide +kernel
theorem d_MA_init_13 : decode b_MA_init 13 = .ok (.bipush 6, 2) := by decide +kernel
theorem d_MA_init_15 : decode b_MA_init 15 = .ok (.anewarray 17, 3) := by decide +kernel
theorem d_MA_init_18 : decode b_MA_init 18 = .ok (.putfield 19, 3) := by decide +kernel
theorem d_MA_init_21 : decode b_MA_init 21 = .ok (.aload_n 0, 1) := by decide +kernel
theorem d_MA_init_22 : decode b_MA_init 22 = .ok (.new 23, 3) := by decide +kernel
theorem d_MA_init_25 : decode b_MA_init 25 = .ok (.dup, 1) := by decide +kernel
theorem d_MA_init_26 : decode b_MA_init 26 = .ok (.invokespecial 25, 3) := by decide +kernel
theorem d_MA_init_29 : decode b_MA_init 29 = .ok (.putfield 26, 3) := by decide +kernel
theorem d_MA_init_32 : decode b_MA_init 32 = .ok (.aload_n 0, 1) := by decide +kernel
theorem d_MA_init_33 : decode b_MA_init 33 = .ok (.new 30, 3) := by decide +kernel
theorem d_MA_init_36 : decode b_MA_init 36 = .ok (.dup, 1) := by decide +kernel
theorem d_MA_init_37 : decode b_MA_init 37 = .ok (.invokespecial 32, 3) := by decide +kernel
theorem d_MA_init_40 : decode b_MA_init 40 = .ok (.putfield 33, 3) := by decide +kernel
theorem d_MA_init_43 : decode b_MA_init 43 = .ok (.aload_n 0, 1) := by decide +kernel
theorem d_MA_init_44 : decode b_MA_init 44 = .ok (.new 37, 3) := by decide +kernel
theorem d_MA_init_47 : decode b_MA_init 47 = .ok (.dup, 1) := by decide +kernel
theorem d_MA_init_48 : decode b_MA_init 48 = .ok (.invokespecial 39, 3) := by decide +kernel
theorem d_MA_init_51 : decode b_MA_init 51 = .ok (.putfield 40, 3) := by decide +kernel
theorem d_MA_init_54 : decode b_MA_init 54 = .ok (.aload_n 0, 1) := by decide +kernel
theorem d_MA_init_55 : decode b_MA_init 55 = .ok (.iconst (-1), 1) := by decide +kernel
theorem d_MA_init_56 : decode b_MA_init 56 = .ok (.putfield 44, 3) := by decide +kernel
theorem d_MA_init_59 : decode b_MA_init 59 = .ok (.iconst 0, 1) := by decide +kernel
theorem d_MA_init_60 : decode b_MA_init 60 = .ok (.istore_n 1, 1) := by decide +kernel
theorem d_MA_init_61 : decode b_MA_init 61 = .ok (.iload_n 1, 1) := by decide +kernel
theorem d_MA_init_62 : decode b_MA_init 62 = .ok (.iconst 4, 1) := by decide +kernel
theorem d_MA_init_63 : decode b_MA_init 63 = .ok (.if_icmp .ge 22, 3) := by decide +kernel
theorem d_MA_init_66 : decode b_MA_init 66 = .ok (.aload_n 0, 1) := by decide +kernel
theorem d_MA_init_67 : decode b_MA_init 67 = .ok (.getfield 11, 3) := by decide +kernel
theorem d_MA_init_70 : decode b_MA_init 70 = .ok (.iload_n 1, 1) := by decide +kernel
theorem d_MA_init_71 : decode b_MA_init 71 = .ok (.new 9, 3) := by decide +kernel
theorem d_MA_init_74 : decode b_MA_init 74 = .ok (.dup, 1) := by decide +kernel
theorem d_MA_init_75 : decode b_MA_init 75 = .ok (.invokespecial 48, 3) := by decide +kernel
theorem d_MA_init_78 : decode b_MA_init 78 = .ok (.aastore, 1) := by decide +kernel
theorem d_MA_init_79 : decode b_MA_init 79 = .ok (.iinc 1 1, 3) := by decide +kernel
theorem d_MA_init_82 : decode b_MA_init 82 = .ok (.goto (-21), 3) := by decide +kernel
theorem d_MA_init_85 : decode b_MA_init 85 = .ok (.iconst 0, 1) := by decide +kernel
theorem d_MA_init_86 : decode b_MA_init 86 = .ok (.istore_n 1, 1) := by decide +kernel
theorem d_MA_init_87 : decode b_MA_init 87 = .ok (.iload_n 1, 1) := by decide +kernel
theorem d_MA_init_88 : decode b_MA_init 88 = .ok (.iconst 5, 1) := by decide +kernel
theorem d_MA_init_89 : decode b_MA_init 89 = .ok (.if_icmp .gt 22, 3) := by decide +kernel
theorem d_MA_init_92 : decode b_MA_init 92 = .ok (.aload_n 0, 1) := by decide +kernel
theorem d_MA_init_93 : decode b_MA_init 93 = .ok (.getfield 19, 3) := by decide +kernel
theorem d_MA_init_96 : decode b_MA_init 96 = .ok (.iload_n 1, 1) := by decide +kernel
theorem d_MA_init_97 : decode b_MA_init 97 = .ok (.new 17, 3) := by decide +kernel
theorem d_MA_init_100 : decode b_MA_init 100 = .ok (.dup, 1) := by decide +kernel
theorem d_MA_init_101 : decode b_MA_init 101 = .ok (.invokespecial 49, 3) := by decide +kernel
theorem d_MA_init_104 : decode b_MA_init 104 = .ok (.aastore, 1) := by decide +kernel
theorem d_MA_init_105 : decode b_MA_init 105 = .ok (.iinc 1 1, 3) := by decide +kernel
theorem d_MA_init_108 : decode b_MA_init 108 = .ok (.goto (-21), 3) := by decide +kernel
theorem d_MA_init_111 : decode b_MA_init 111 = .ok (.return_, 1) := by decide +kernel
theorem d_MA_perform_0 : decode b_MA_perform 0 = .ok (.aload_n 0, 1) := by decide +kernel
theorem d_MA_perform_1 : decode b_MA_perform 1 = .ok (.getfield 26, 3) := by decide +kernel
theorem d_MA_perform_4 : decode b_MA_perform 4 = .ok (.invokevirtual 50, 3) := by decide +kernel
theorem d_MA_perform_7 : decode b_MA_perform 7 = .ok (.aload_n 0, 1) := by decide +kernel
theorem d_MA_perform_8 : decode b_MA_perform 8 = .ok (.getfield 33, 3) := by decide +kernel
theorem d_MA_perform_11 : decode b_MA_perform 11 = .ok (.invokevirtual 53, 3) := by decide +kernel
theorem d_MA_perform_14 : decode b_MA_perform 14 = .ok (.aload_n 0, 1) := by decide +kernel
theorem d_MA_perform_15 : decode b_MA_perform 15 = .ok (.iconst 0, 1) := by decide +kernel
theorem d_MA_perform_16 : decode b_MA_perform 16 = .ok (.putfield 56, 3) := by decide +kernel
theorem d_MA_perform_19 : decode b_MA_perform 19 = .ok (.aload_n 0, 1) := by decide +kernel
theorem d_MA_perform_20 : decode b_MA_perform 20 = .ok (.iconst (-1), 1) := by decide +kernel
theorem d_MA_perform_21 : decode b_MA_perform 21 = .ok (.putfield 44, 3) := by decide +kernel
theorem d_MA_perform_24 : decode b_MA_perform 24 = .ok (.aload_n 0, 1) := by decide +kernel
theorem d_MA_perform_25 : decode b_MA_perform 25 = .ok (.getfield 19, 3) := by decide +kernel
theorem d_MA_perform_28 : decode b_MA_perform 28 = .ok (.iconst 0, 1) := by decide +kernel
theorem d_MA_perform_29 : decode b_MA_perform 29 = .ok (.aaload, 1) := by decide +kernel
theorem d_MA_perform_30 : decode b_MA_perform 30 = .ok (.iload_n 1, 1) := by decide +kernel
theorem d_MA_perform_31 : decode b_MA_perform 31 = .ok (.iload_n 2, 1) := by decide +kernel
theorem d_MA_perform_32 : decode b_MA_perform 32 = .ok (.invokevirtual 59, 3) := by decide +kernel
theorem d_MA_perform_35 : decode b_MA_perform 35 = .ok (.aload_n 0, 1) := by decide +kernel
theorem d_MA_perform_36 : decode b_MA_perform 36 = .ok (.iconst 0, 1) := by decide +kernel
theorem d_MA_perform_37 : decode b_MA_perform 37 = .ok (.invokevirtual 63, 3) := by decide +kernel
theorem d_MA_perform_40 : decode b_MA_perform 40 = .ok (.astore_n 3, 1) := by decide +kernel
theorem d_MA_perform_41 : decode b_MA_perform 41 = .ok (.aload_n 3, 1) := by decide +kernel
theorem d_MA_perform_42 : decode b_MA_perform 42 = .ok (.getstatic 67, 3) := by decide +kernel
theorem d_MA_perform_45 : decode b_MA_perform 45 = .ok (.if_acmp .ne 5, 3) := by decide +kernel
theorem d_MA_perform_48 : decode b_MA_perform 48 = .ok (.iconst 2, 1) := by decide +kernel
theorem d_MA_perform_49 : decode b_MA_perform 49 = .ok (.ireturn, 1) := by decide +kernel
theorem d_MA_perform_50 : decode b_MA_perform 50 = .ok (.aload_n 3, 1) := by decide +kernel
theorem d_MA_perform_51 : decode b_MA_perform 51 = .ok (.getstatic 73, 3) := by decide +kernel
theorem d_MA_perform_54 : decode b_MA_perform 54 = .ok (.if_acmp .ne 18, 3) := by decide +kernel
theorem d_MA_perform_57 : decode b_MA_perform 57 = .ok (.aload_n 0, 1) := by decide +kernel
theorem d_MA_perform_58 : decode b_MA_perform 58 = .ok (.aload_n 0, 1) := by decide +kernel
theorem d_MA_perform_59 : decode b_MA_perform 59 = .ok (.getfield 19, 3) := by decide +kernel
theorem d_MA_perform_62 : decode b_MA_perform 62 = .ok (.iconst 0, 1) := by decide +kernel
theorem d_MA_perform_63 : decode b_MA_perform 63 = .ok (.aaload, 1) := by decide +kernel
theorem d_MA_perform_64 : decode b_MA_perform 64 = .ok (.getfield 76, 3) := by decide +kernel
theorem d_MA_perform_67 : decode b_MA_perform 67 = .ok (.putfield 44, 3) := by decide +kernel
theorem d_MA_perform_70 : decode b_MA_perform 70 = .ok (.iconst 1, 1) := by decide +kernel
theorem d_MA_perform_71 : decode b_MA_perform 71 = .ok (.ireturn, 1) := by decide +kernel
theorem d_MA_perform_72 : decode b_MA_perform 72 = .ok (.aload_n 0, 1) := by decide +kernel
theorem d_MA_perform_73 : decode b_MA_perform 73 = .ok (.aload_n 0, 1) := by decide +kernel
theorem d_MA_perform_74 : decode b_MA_perform 74 = .ok (.getfield 19, 3) := by decide +kernel
theorem d_MA_perform_77 : decode b_MA_perform 77 = .ok (.iconst 0, 1) := by decide +kernel
theorem d_MA_perform_78 : decode b_MA_perform 78 = .ok (.aaload, 1) := by decide +kernel
theorem d_MA_perform_79 : decode b_MA_perform 79 = .ok (.getfield 76, 3) := by decide +kernel
theorem d_MA_perform_82 : decode b_MA_perform 82 = .ok (.putfield 79, 3) := by decide +kernel
theorem d_MA_perform_85 : decode b_MA_perform 85 = .ok (.iconst 0, 1) := by decide +kernel
theorem d_MA_perform_86 : decode b_MA_perform 86 = .ok (.ireturn, 1) := by decide +kernel
theorem d_MA_doProcedure_0 : decode b_MA_doProcedure 0 = .ok (.aload_n 0, 1) := by decide +kernel
theorem d_MA_doProcedure_1 : decode b_MA_doProcedure 1 = .ok (.getfield 19, 3) := by decide +kernel
theorem d_MA_doProcedure_4 : decode b_MA_doProcedure 4 = .ok (.iload_n 1, 1) := by decide +kernel
theorem d_MA_doProcedure_5 : decode b_MA_doProcedure 5 = .ok (.aaload, 1) := by decide +kernel
theorem d_MA_doProcedure_6 : decode b_MA_doProcedure 6 = .ok (.astore_n 2, 1) := by decide +kernel
theorem d_MA_doProcedure_7 : decode b_MA_doProcedure 7 = .ok (.aload_n 0, 1) := by decide +kernel
theorem d_MA_doProcedure_8 : decode b_MA_doProcedure 8 = .ok (.iload_n 1, 1) := by decide +kernel
theorem d_MA_doProcedure_9 : decode b_MA_doProcedure 9 = .ok (.iconst (-1), 1) := by decide +kernel
theorem d_MA_doProcedure_10 : decode b_MA_doProcedure 10 = .ok (.invokevirtual 82, 3) := by decide +kernel
theorem d_MA_doProcedure_13 : decode b_MA_doProcedure 13 = .ok (.astore_n 3, 1) := by decide +kernel
theorem d_MA_doProcedure_14 : decode b_MA_doProcedure 14 = .ok (.aload_n 3, 1) := by decide +kernel
theorem d_MA_doProcedure_15 : decode b_MA_doProcedure 15 = .ok (.getstatic 67, 3) := by decide +kernel
theorem d_MA_doProcedure_18 : decode b_MA_doProcedure 18 = .ok (.if_acmp .ne 5, 3) := by decide +kernel
theorem d_MA_doProcedure_21 : decode b_MA_doProcedure 21 = .ok (.aload_n 3, 1) := by decide +kernel
theorem d_MA_doProcedure_22 : decode b_MA_doProcedure 22 = .ok (.areturn, 1) := by decide +kernel
theorem d_MA_doProcedure_23 : decode b_MA_doProcedure 23 = .ok (.aload_n 3, 1) := by decide +kernel
theorem d_MA_doProcedure_24 : decode b_MA_doProcedure 24 = .ok (.getstatic 86, 3) := by decide +kernel
theorem d_MA_doProcedure_27 : decode b_MA_doProcedure 27 = .ok (.if_acmp .ne 15, 3) := by decide +kernel
theorem d_MA_doProcedure_30 : decode b_MA_doProcedure 30 = .ok (.aload_n 2, 1) := by decide +kernel
theorem d_MA_doProcedure_31 : decode b_MA_doProcedure 31 = .ok (.aload_n 2, 1) := by decide +kernel
theorem d_MA_doProcedure_32 : decode b_MA_doProcedure 32 = .ok (.getfield 89, 3) := by decide +kernel
theorem d_MA_doProcedure_35 : decode b_MA_doProcedure 35 = .ok (.putfield 76, 3) := by decide +kernel
theorem d_MA_doProcedure_38 : decode b_MA_doProcedure 38 = .ok (.getstatic 92, 3) := by decide +kernel
theorem d_MA_doProcedure_41 : decode b_MA_doProcedure 41 = .ok (.astore_n 3, 1) := by decide +kernel
theorem d_MA_doProcedure_42 : decode b_MA_doProcedure 42 = .ok (.aload_n 0, 1) := by decide +kernel
theorem d_MA_doProcedure_43 : decode b_MA_doProcedure 43 = .ok (.aload_n 2, 1) := by decide +kernel
theorem d_MA_doProcedure_44 : decode b_MA_doProcedure 44 = .ok (.invokevirtual 95, 3) := by decide +kernel
theorem d_MA_doProcedure_47 : decode b_MA_doProcedure 47 = .ok (.ifCond .eq 25, 3) := by decide +kernel
theorem d_MA_doProcedure_50 : decode b_MA_doProcedure 50 = .ok (.aload_n 0, 1) := by decide +kernel
theorem d_MA_doProcedure_51 : decode b_MA_doProcedure 51 = .ok (.aload_n 2, 1) := by decide +kernel
theorem d_MA_doProcedure_52 : decode b_MA_doProcedure 52 = .ok (.iconst 4, 1) := by decide +kernel
theorem d_MA_doProcedure_53 : decode b_MA_doProcedure 53 = .ok (.aload_n 3, 1) := by decide +kernel
theorem d_MA_doProcedure_54 : decode b_MA_doProcedure 54 = .ok (.getstatic 73, 3) := by decide +kernel
theorem d_MA_doProcedure_57 : decode b_MA_doProcedure 57 = .ok (.if_acmp .ne 10, 3) := by decide +kernel
theorem d_MA_doProcedure_60 : decode b_MA_doProcedure 60 = .ok (.aload_n 2, 1) := by decide +kernel
theorem d_MA_doProcedure_61 : decode b_MA_doProcedure 61 = .ok (.getfield 76, 3) := by decide +kernel
theorem d_MA_doProcedure_64 : decode b_MA_doProcedure 64 = .ok (.goto 4, 3) := by decide +kernel
theorem d_MA_doProcedure_67 : decode b_MA_doProcedure 67 = .ok (.iconst (-1), 1) := by decide +kernel
theorem d_MA_doProcedure_68 : decode b_MA_doProcedure 68 = .ok (.invokevirtual 99, 3) := by decide +kernel
theorem d_MA_doProcedure_71 : decode b_MA_doProcedure 71 = .ok (.areturn, 1) := by decide +kernel
theorem d_MA_doProcedure_72 : decode b_MA_doProcedure 72 = .ok (.aload_n 3, 1) := by decide +kernel
theorem d_MA_doProcedure_73 : decode b_MA_doProcedure 73 = .ok (.areturn, 1) := by decide +kernel
theorem d_MA_releaseEntered_0 : decode b_MA_releaseEntered 0 = .ok (.iconst 0, 1) := by decide +kernel
theorem d_MA_releaseEntered_1 : decode b_MA_releaseEntered 1 = .ok (.istore_n 2, 1) := by decide +kernel
theorem d_MA_releaseEntered_2 : decode b_MA_releaseEntered 2 = .ok (.iconst 0, 1) := by decide +kernel
theorem d_MA_releaseEntered_3 : decode b_MA_releaseEntered 3 = .ok (.istore_n 3, 1) := by decide +kernel
theorem d_MA_releaseEntered_4 : decode b_MA_releaseEntered 4 = .ok (.iload_n 3, 1) := by decide +kernel
theorem d_MA_releaseEntered_5 : decode b_MA_releaseEntered 5 = .ok (.iconst 3, 1) := by decide +kernel
theorem d_MA_releaseEntered_6 : decode b_MA_releaseEntered 6 = .ok (.if_icmp .ge 34, 3) := by decide +kernel
theorem d_MA_releaseEntered_9 : decode b_MA_releaseEntered 9 = .ok (.aload_n 1, 1) := by decide +kernel
theorem d_MA_releaseEntered_10 : decode b_MA_releaseEntered 10 = .ok (.getfield 103, 3) := by decide +kernel
theorem d_MA_releaseEntered_13 : decode b_MA_releaseEntered 13 = .ok (.iload_n 3, 1) := by decide +kernel
theorem d_MA_releaseEntered_14 : decode b_MA_releaseEntered 14 = .ok (.iaload, 1) := by decide +kernel
theorem d_MA_releaseEntered_15 : decode b_MA_releaseEntered 15 = .ok (.ifCond .le 19, 3) := by decide +kernel
theorem d_MA_releaseEntered_18 : decode b_MA_releaseEntered 18 = .ok (.aload_n 0, 1) := by decide +kernel
theorem d_MA_releaseEntered_19 : decode b_MA_releaseEntered 19 = .ok (.getfield 33, 3) := by decide +kernel
theorem d_MA_releaseEntered_22 : decode b_MA_releaseEntered 22 = .ok (.iload_n 3, 1) := by decide +kernel
theorem d_MA_releaseEntered_23 : decode b_MA_releaseEntered 23 = .ok (.aload_n 1, 1) := by decide +kernel
theorem d_MA_releaseEntered_24 : decode b_MA_releaseEntered 24 = .ok (.getfield 103, 3) := by decide +kernel
theorem d_MA_releaseEntered_27 : decode b_MA_releaseEntered 27 = .ok (.iload_n 3, 1) := by decide +kernel
theorem d_MA_releaseEntered_28 : decode b_MA_releaseEntered 28 = .ok (.iaload, 1) := by decide +kernel
theorem d_MA_releaseEntered_29 : decode b_MA_releaseEntered 29 = .ok (.invokevirtual 107, 3) := by decide +kernel
theorem d_MA_releaseEntered_32 : decode b_MA_releaseEntered 32 = .ok (.iconst 1, 1) := by decide +kernel
theorem d_MA_releaseEntered_33 : decode b_MA_releaseEntered 33 = .ok (.istore_n 2, 1) := by decide +kernel
theorem d_MA_releaseEntered_34 : decode b_MA_releaseEntered 34 = .ok (.iinc 3 1, 3) := by decide +kernel
theorem d_MA_releaseEntered_37 : decode b_MA_releaseEntered 37 = .ok (.goto (-33), 3) := by decide +kernel
theorem d_MA_releaseEntered_40 : decode b_MA_releaseEntered 40 = .ok (.iload_n 2, 1) := by decide +kernel
theorem d_MA_releaseEntered_41 : decode b_MA_releaseEntered 41 = .ok (.ireturn, 1) := by decide +kernel
theorem d_MA_textOf_0 : decode b_MA_textOf 0 = .ok (.aload_n 0, 1) := by decide +kernel
theorem d_MA_textOf_1 : decode b_MA_textOf 1 = .ok (.getfield 11, 3) := by decide +kernel
theorem d_MA_textOf_4 : decode b_MA_textOf 4 = .ok (.aload_n 0, 1) := by decide +kernel
theorem d_MA_textOf_5 : decode b_MA_textOf 5 = .ok (.getfield 19, 3) := by decide +kernel
theorem d_MA_textOf_8 : decode b_MA_textOf 8 = .ok (.iload_n 1, 1) := by decide +kernel
theorem d_MA_textOf_9 : decode b_MA_textOf 9 = .ok (.aaload, 1) := by decide +kernel
theorem d_MA_textOf_10 : decode b_MA_textOf 10 = .ok (.getfield 110, 3) := by decide +kernel
theorem d_MA_textOf_13 : decode b_MA_textOf 13 = .ok (.aaload, 1) := by decide +kernel
theorem d_MA_textOf_14 : decode b_MA_textOf 14 = .ok (.areturn, 1) := by decide +kernel
theorem d_MA_doBlock_0 : decode b_MA_doBlock 0 = .ok (.aload_n 0, 1) := by decide +kernel
theorem d_MA_doBlock_1 : decode b_MA_doBlock 1 = .ok (.iload_n 1, 1) := by decide +kernel
theorem d_MA_doBlock_2 : decode b_MA_doBlock 2 = .ok (.invokevirtual 113, 3) := by decide +kernel
theorem d_MA_doBlock_5 : decode b_MA_doBlock 5 = .ok (.astore_n 3, 1) := by decide +kernel
theorem d_MA_doBlock_6 : decode b_MA_doBlock 6 = .ok (.iload_n 2, 1) := by decide +kernel
theorem d_MA_doBlock_7 : decode b_MA_doBlock 7 = .ok (.iconst (-1), 1) := by decide +kernel
theorem d_MA_doBlock_8 : decode b_MA_doBlock 8 = .ok (.if_icmp .ne 12, 3) := by decide +kernel
theorem d_MA_doBlock_11 : decode b_MA_doBlock 11 = .ok (.aload_n 3, 1) := by decide +kernel
theorem d_MA_doBlock_12 : decode b_MA_doBlock 12 = .ok (.getfield 117, 3) := by decide +kernel
theorem d_MA_doBlock_15 : decode b_MA_doBlock 15 = .ok (.iconst 1, 1) := by decide +kernel
theorem d_MA_doBlock_16 : decode b_MA_doBlock 16 = .ok (.isub, 1) := by decide +kernel
theorem d_MA_doBlock_17 : decode b_MA_doBlock 17 = .ok (.goto 9, 3) := by decide +kernel
theorem d_MA_doBlock_20 : decode b_MA_doBlock 20 = .ok (.aload_n 3, 1) := by decide +kernel
theorem d_MA_doBlock_21 : decode b_MA_doBlock 21 = .ok (.getfield 120, 3) := by decide +kernel
theorem d_MA_doBlock_24 : decode b_MA_doBlock 24 = .ok (.iload_n 2, 1) := by decide +kernel
theorem d_MA_doBlock_25 : decode b_MA_doBlock 25 = .ok (.iaload, 1) := by decide +kernel
theorem d_MA_doBlock_26 : decode b_MA_doBlock 26 = .ok (.istore 4, 2) := by decide +kernel
theorem d_MA_doBlock_28 : decode b_MA_doBlock 28 = .ok (.iload_n 2, 1) := by decide +kernel
theorem d_MA_doBlock_29 : decode b_MA_doBlock 29 = .ok (.iconst 1, 1) := by decide +kernel
theorem d_MA_doBlock_30 : decode b_MA_doBlock 30 = .ok (.iadd, 1) := by decide +kernel
theorem d_MA_doBlock_31 : decode b_MA_doBlock 31 = .ok (.istore 5, 2) := by decide +kernel
theorem d_MA_doBlock_33 : decode b_MA_doBlock 33 = .ok (.iconst 0, 1) := by decide +kernel
theorem d_MA_doBlock_34 : decode b_MA_doBlock 34 = .ok (.istore 6, 2) := by decide +kernel
theorem d_MA_doBlock_36 : decode b_MA_doBlock 36 = .ok (.iload 6, 2) := by decide +kernel
theorem d_MA_doBlock_38 : decode b_MA_doBlock 38 = .ok (.bipush 32, 2) := by decide +kernel
theorem d_MA_doBlock_40 : decode b_MA_doBlock 40 = .ok (.if_icmp .ge 44, 3) := by decide +kernel
theorem d_MA_doBlock_43 : decode b_MA_doBlock 43 = .ok (.iload 5, 2) := by decide +kernel
theorem d_MA_doBlock_45 : decode b_MA_doBlock 45 = .ok (.iload 4, 2) := by decide +kernel
theorem d_MA_doBlock_47 : decode b_MA_doBlock 47 = .ok (.if_icmp .ge 37, 3) := by decide +kernel
theorem d_MA_doBlock_50 : decode b_MA_doBlock 50 = .ok (.aload_n 0, 1) := by decide +kernel
theorem d_MA_doBlock_51 : decode b_MA_doBlock 51 = .ok (.iload_n 1, 1) := by decide +kernel
theorem d_MA_doBlock_52 : decode b_MA_doBlock 52 = .ok (.iload 5, 2) := by decide +kernel
theorem d_MA_doBlock_54 : decode b_MA_doBlock 54 = .ok (.invokevirtual 123, 3) := by decide +kernel
theorem d_MA_doBlock_57 : decode b_MA_doBlock 57 = .ok (.astore 7, 2) := by decide +kernel
theorem d_MA_doBlock_59 : decode b_MA_doBlock 59 = .ok (.aload 7, 2) := by decide +kernel
theorem d_MA_doBlock_61 : decode b_MA_doBlock 61 = .ok (.getstatic 86, 3) := by decide +kernel
theorem d_MA_doBlock_64 : decode b_MA_doBlock 64 = .ok (.if_acmp .eq 6, 3) := by decide +kernel
theorem d_MA_doBlock_67 : decode b_MA_doBlock 67 = .ok (.aload 7, 2) := by decide +kernel
theorem d_MA_doBlock_69 : decode b_MA_doBlock 69 = .ok (.areturn, 1) := by decide +kernel
theorem d_MA_doBlock_70 : decode b_MA_doBlock 70 = .ok (.aload_n 3, 1) := by decide +kernel
theorem d_MA_doBlock_71 : decode b_MA_doBlock 71 = .ok (.iload 5, 2) := by decide +kernel
theorem d_MA_doBlock_73 : decode b_MA_doBlock 73 = .ok (.invokevirtual 126, 3) := by decide +kernel
theorem d_MA_doBlock_76 : decode b_MA_doBlock 76 = .ok (.istore 5, 2) := by decide +kernel
theorem d_MA_doBlock_78 : decode b_MA_doBlock 78 = .ok (.iinc 6 1, 3) := by decide +kernel
theorem d_MA_doBlock_81 : decode b_MA_doBlock 81 = .ok (.goto (-45), 3) := by decide +kernel
theorem d_MA_doBlock_84 : decode b_MA_doBlock 84 = .ok (.getstatic 86, 3) := by decide +kernel
theorem d_MA_doBlock_87 : decode b_MA_doBlock 87 = .ok (.areturn, 1) := by decide +kernel
theorem d_MA_doItem_0 : decode b_MA_doItem 0 = .ok (.aload_n 0, 1) := by decide +kernel
theorem d_MA_doItem_1 : decode b_MA_doItem 1 = .ok (.getfield 56, 3) := by decide +kernel
theorem d_MA_doItem_4 : decode b_MA_doItem 4 = .ok (.sipush 300, 3) := by decide +kernel
theorem d_MA_doItem_7 : decode b_MA_doItem 7 = .ok (.if_icmp .lt 7, 3) := by decide +kernel
theorem d_MA_doItem_10 : decode b_MA_doItem 10 = .ok (.getstatic 67, 3) := by decide +kernel
theorem d_MA_doItem_13 : decode b_MA_doItem 13 = .ok (.areturn, 1) := by decide +kernel
theorem d_MA_doItem_14 : decode b_MA_doItem 14 = .ok (.aload_n 0, 1) := by decide +kernel
theorem d_MA_doItem_15 : decode b_MA_doItem 15 = .ok (.dup, 1) := by decide +kernel
theorem d_MA_doItem_16 : decode b_MA_doItem 16 = .ok (.getfield 56, 3) := by decide +kernel
theorem d_MA_doItem_19 : decode b_MA_doItem 19 = .ok (.iconst 1, 1) := by decide +kernel
theorem d_MA_doItem_20 : decode b_MA_doItem 20 = .ok (.iadd, 1) := by decide +kernel
theorem d_MA_doItem_21 : decode b_MA_doItem 21 = .ok (.putfield 56, 3) := by decide +kernel
theorem d_MA_doItem_24 : decode b_MA_doItem 24 = .ok (.aload_n 0, 1) := by decide +kernel
theorem d_MA_doItem_25 : decode b_MA_doItem 25 = .ok (.getfield 19, 3) := by decide +kernel
theorem d_MA_doItem_28 : decode b_MA_doItem 28 = .ok (.iload_n 1, 1) := by decide +kernel
theorem d_MA_doItem_29 : decode b_MA_doItem 29 = .ok (.aaload, 1) := by decide +kernel
theorem d_MA_doItem_30 : decode b_MA_doItem 30 = .ok (.astore_n 3, 1) := by decide +kernel
theorem d_MA_doItem_31 : decode b_MA_doItem 31 = .ok (.aload_n 0, 1) := by decide +kernel
theorem d_MA_doItem_32 : decode b_MA_doItem 32 = .ok (.iload_n 1, 1) := by decide +kernel
theorem d_MA_doItem_33 : decode b_MA_doItem 33 = .ok (.invokevirtual 113, 3) := by decide +kernel
theorem d_MA_doItem_36 : decode b_MA_doItem 36 = .ok (.astore 4, 2) := by decide +kernel
theorem d_MA_doItem_38 : decode b_MA_doItem 38 = .ok (.aload 4, 2) := by decide +kernel
theorem d_MA_doItem_40 : decode b_MA_doItem 40 = .ok (.getfield 130, 3) := by decide +kernel
theorem d_MA_doItem_43 : decode b_MA_doItem 43 = .ok (.iload_n 2, 1) := by decide +kernel
theorem d_MA_doItem_44 : decode b_MA_doItem 44 = .ok (.iaload, 1) := by decide +kernel
theorem d_MA_doItem_45 : decode b_MA_doItem 45 = .ok (.istore 5, 2) := by decide +kernel
theorem d_MA_doItem_47 : decode b_MA_doItem 47 = .ok (.aload 4, 2) := by decide +kernel
theorem d_MA_doItem_49 : decode b_MA_doItem 49 = .ok (.getfield 133, 3) := by decide +kernel
theorem d_MA_doItem_52 : decode b_MA_doItem 52 = .ok (.iload_n 2, 1) := by decide +kernel
theorem d_MA_doItem_53 : decode b_MA_doItem 53 = .ok (.iaload, 1) := by decide +kernel
theorem d_MA_doItem_54 : decode b_MA_doItem 54 = .ok (.tableswitch 254 0 15 #[78, 91, 106, 114, 123, 127, 131, 146, 155, 167, 174, 183, 191, 199, 207, 229], 78) := by decide +kernel
theorem d_MA_doItem_132 : decode b_MA_doItem 132 = .ok (.aload_n 0, 1) := by decide +kernel
theorem d_MA_doItem_133 : decode b_MA_doItem 133 = .ok (.getfield 40, 3) := by decide +kernel
theorem d_MA_doItem_136 : decode b_MA_doItem 136 = .ok (.iload 5, 2) := by decide +kernel
theorem d_MA_doItem_138 : decode b_MA_doItem 138 = .ok (.invokevirtual 136, 3) := by decide +kernel
theorem d_MA_doItem_141 : decode b_MA_doItem 141 = .ok (.getstatic 86, 3) := by decide +kernel
theorem d_MA_doItem_144 : decode b_MA_doItem 144 = .ok (.areturn, 1) := by decide +kernel
theorem d_MA_doItem_145 : decode b_MA_doItem 145 = .ok (.aload_n 3, 1) := by decide +kernel
theorem d_MA_doItem_146 : decode b_MA_doItem 146 = .ok (.dup, 1) := by decide +kernel
theorem d_MA_doItem_147 : decode b_MA_doItem 147 = .ok (.getfield 89, 3) := by decide +kernel
theorem d_MA_doItem_150 : decode b_MA_doItem 150 = .ok (.iload 5, 2) := by decide +kernel
theorem d_MA_doItem_152 : decode b_MA_doItem 152 = .ok (.iadd, 1) := by decide +kernel
theorem d_MA_doItem_153 : decode b_MA_doItem 153 = .ok (.putfield 89, 3) := by decide +kernel
theorem d_MA_doItem_156 : decode b_MA_doItem 156 = .ok (.getstatic 86, 3) := by decide +kernel
theorem d_MA_doItem_159 : decode b_MA_doItem 159 = .ok (.areturn, 1) := by decide +kernel
theorem d_MA_doItem_160 : decode b_MA_doItem 160 = .ok (.aload_n 0, 1) := by decide +kernel
theorem d_MA_doItem_161 : decode b_MA_doItem 161 = .ok (.aload_n 3, 1) := by decide +kernel
theorem d_MA_doItem_162 : decode b_MA_doItem 162 = .ok (.iload 5, 2) := by decide +kernel
theorem d_MA_doItem_164 : decode b_MA_doItem 164 = .ok (.invokevirtual 140, 3) := by decide +kernel
theorem d_MA_doItem_167 : decode b_MA_doItem 167 = .ok (.areturn, 1) := by decide +kernel
theorem d_MA_doItem_168 : decode b_MA_doItem 168 = .ok (.aload_n 0, 1) := by decide +kernel
theorem d_MA_doItem_169 : decode b_MA_doItem 169 = .ok (.iload_n 1, 1) := by decide +kernel
theorem d_MA_doItem_170 : decode b_MA_doItem 170 = .ok (.iload_n 2, 1) := by decide +kernel
theorem d_MA_doItem_171 : decode b_MA_doItem 171 = .ok (.iload 5, 2) := by decide +kernel
theorem d_MA_doItem_173 : decode b_MA_doItem 173 = .ok (.invokevirtual 144, 3) := by decide +kernel
theorem d_MA_doItem_176 : decode b_MA_doItem 176 = .ok (.areturn, 1) := by decide +kernel
theorem d_MA_doItem_177 : decode b_MA_doItem 177 = .ok (.getstatic 148, 3) := by decide +kernel
theorem d_MA_doItem_180 : decode b_MA_doItem 180 = .ok (.areturn, 1) := by decide +kernel
theorem d_MA_doItem_181 : decode b_MA_doItem 181 = .ok (.getstatic 151, 3) := by decide +kernel
theorem d_MA_doItem_184 : decode b_MA_doItem 184 = .ok (.areturn, 1) := by decide +kernel
theorem d_MA_doItem_185 : decode b_MA_doItem 185 = .ok (.aload_n 3, 1) := by decide +kernel
theorem d_MA_doItem_186 : decode b_MA_doItem 186 = .ok (.aload_n 3, 1) := by decide +kernel
theorem d_MA_doItem_187 : decode b_MA_doItem 187 = .ok (.getfield 89, 3) := by decide +kernel
theorem d_MA_doItem_190 : decode b_MA_doItem 190 = .ok (.iload 5, 2) := by decide +kernel
theorem d_MA_doItem_192 : decode b_MA_doItem 192 = .ok (.iadd, 1) := by decide +kernel
theorem d_MA_doItem_193 : decode b_MA_doItem 193 = .ok (.putfield 76, 3) := by decide +kernel
theorem d_MA_doItem_196 : decode b_MA_doItem 196 = .ok (.getstatic 92, 3) := by decide +kernel
theorem d_MA_doItem_199 : decode b_MA_doItem 199 = .ok (.areturn, 1) := by decide +kernel
theorem d_MA_doItem_200 : decode b_MA_doItem 200 = .ok (.aload_n 0, 1) := by decide +kernel
theorem d_MA_doItem_201 : decode b_MA_doItem 201 = .ok (.aload_n 3, 1) := by decide +kernel
theorem d_MA_doItem_202 : decode b_MA_doItem 202 = .ok (.iload 5, 2) := by decide +kernel
theorem d_MA_doItem_204 : decode b_MA_doItem 204 = .ok (.iconst (-1), 1) := by decide +kernel
theorem d_MA_doItem_205 : decode b_MA_doItem 205 = .ok (.invokevirtual 99, 3) := by decide +kernel
theorem d_MA_doItem_208 : decode b_MA_doItem 208 = .ok (.areturn, 1) := by decide +kernel
theorem d_MA_doItem_209 : decode b_MA_doItem 209 = .ok (.aload_n 0, 1) := by decide +kernel
theorem d_MA_doItem_210 : decode b_MA_doItem 210 = .ok (.aload_n 3, 1) := by decide +kernel
theorem d_MA_doItem_211 : decode b_MA_doItem 211 = .ok (.iload 5, 2) := by decide +kernel
theorem d_MA_doItem_213 : decode b_MA_doItem 213 = .ok (.aload_n 3, 1) := by decide +kernel
theorem d_MA_doItem_214 : decode b_MA_doItem 214 = .ok (.getfield 154, 3) := by decide +kernel
theorem d_MA_doItem_217 : decode b_MA_doItem 217 = .ok (.invokevirtual 99, 3) := by decide +kernel
theorem d_MA_doItem_220 : decode b_MA_doItem 220 = .ok (.areturn, 1) := by decide +kernel
theorem d_MA_doItem_221 : decode b_MA_doItem 221 = .ok (.aload_n 0, 1) := by decide +kernel
theorem d_MA_doItem_222 : decode b_MA_doItem 222 = .ok (.iload_n 1, 1) := by decide +kernel
theorem d_MA_doItem_223 : decode b_MA_doItem 223 = .ok (.iload_n 2, 1) := by decide +kernel
theorem d_MA_doItem_224 : decode b_MA_doItem 224 = .ok (.invokevirtual 157, 3) := by decide +kernel
theorem d_MA_doItem_227 : decode b_MA_doItem 227 = .ok (.areturn, 1) := by decide +kernel
theorem d_MA_doItem_228 : decode b_MA_doItem 228 = .ok (.aload_n 0, 1) := by decide +kernel
theorem d_MA_doItem_229 : decode b_MA_doItem 229 = .ok (.iload_n 1, 1) := by decide +kernel
theorem d_MA_doItem_230 : decode b_MA_doItem 230 = .ok (.iload_n 2, 1) := by decide +kernel
theorem d_MA_doItem_231 : decode b_MA_doItem 231 = .ok (.iload 5, 2) := by decide +kernel
theorem d_MA_doItem_233 : decode b_MA_doItem 233 = .ok (.invokevirtual 160, 3) := by decide +kernel
theorem d_MA_doItem_236 : decode b_MA_doItem 236 = .ok (.areturn, 1) := by decide +kernel
theorem d_MA_doItem_237 : decode b_MA_doItem 237 = .ok (.aload_n 0, 1) := by decide +kernel
theorem d_MA_doItem_238 : decode b_MA_doItem 238 = .ok (.aload_n 3, 1) := by decide +kernel
theorem d_MA_doItem_239 : decode b_MA_doItem 239 = .ok (.iload 5, 2) := by decide +kernel
theorem d_MA_doItem_241 : decode b_MA_doItem 241 = .ok (.invokevirtual 163, 3) := by decide +kernel
theorem d_MA_doItem_244 : decode b_MA_doItem 244 = .ok (.areturn, 1) := by decide +kernel
theorem d_MA_doItem_245 : decode b_MA_doItem 245 = .ok (.aload_n 0, 1) := by decide +kernel
theorem d_MA_doItem_246 : decode b_MA_doItem 246 = .ok (.aload_n 3, 1) := by decide +kernel
theorem d_MA_doItem_247 : decode b_MA_doItem 247 = .ok (.iload 5, 2) := by decide +kernel
theorem d_MA_doItem_249 : decode b_MA_doItem 249 = .ok (.invokevirtual 166, 3) := by decide +kernel
theorem d_MA_doItem_252 : decode b_MA_doItem 252 = .ok (.areturn, 1) := by decide +kernel
theorem d_MA_doItem_253 : decode b_MA_doItem 253 = .ok (.aload_n 0, 1) := by decide +kernel
theorem d_MA_doItem_254 : decode b_MA_doItem 254 = .ok (.iload_n 1, 1) := by decide +kernel
theorem d_MA_doItem_255 : decode b_MA_doItem 255 = .ok (.iload 5, 2) := by decide +kernel
theorem d_MA_doItem_257 : decode b_MA_doItem 257 = .ok (.invokevirtual 169, 3) := by decide +kernel
theorem d_MA_doItem_260 : decode b_MA_doItem 260 = .ok (.areturn, 1) := by decide +kernel
theorem d_MA_doItem_261 : decode b_MA_doItem 261 = .ok (.aload_n 3, 1) := by decide +kernel
theorem d_MA_doItem_262 : decode b_MA_doItem 262 = .ok (.getfield 89, 3) := by decide +kernel
theorem d_MA_doItem_265 : decode b_MA_doItem 265 = .ok (.iload 5, 2) := by decide +kernel
theorem d_MA_doItem_267 : decode b_MA_doItem 267 = .ok (.if_icmp .le 12, 3) := by decide +kernel
theorem d_MA_doItem_270 : decode b_MA_doItem 270 = .ok (.aload_n 0, 1) := by decide +kernel
theorem d_MA_doItem_271 : decode b_MA_doItem 271 = .ok (.iload_n 1, 1) := by decide +kernel
theorem d_MA_doItem_272 : decode b_MA_doItem 272 = .ok (.iload_n 2, 1) := by decide +kernel
theorem d_MA_doItem_273 : decode b_MA_doItem 273 = .ok (.invokevirtual 82, 3) := by decide +kernel
theorem d_MA_doItem_276 : decode b_MA_doItem 276 = .ok (.goto 6, 3) := by decide +kernel
theorem d_MA_doItem_279 : decode b_MA_doItem 279 = .ok (.getstatic 86, 3) := by decide +kernel
theorem d_MA_doItem_282 : decode b_MA_doItem 282 = .ok (.areturn, 1) := by decide +kernel
theorem d_MA_doItem_283 : decode b_MA_doItem 283 = .ok (.aload_n 3, 1) := by decide +kernel
theorem d_MA_doItem_284 : decode b_MA_doItem 284 = .ok (.aload_n 0, 1) := by decide +kernel
theorem d_MA_doItem_285 : decode b_MA_doItem 285 = .ok (.getfield 33, 3) := by decide +kernel
theorem d_MA_doItem_288 : decode b_MA_doItem 288 = .ok (.iload 5, 2) := by decide +kernel
theorem d_MA_doItem_290 : decode b_MA_doItem 290 = .ok (.invokevirtual 172, 3) := by decide +kernel
theorem d_MA_doItem_293 : decode b_MA_doItem 293 = .ok (.ifCond .eq 7, 3) := by decide +kernel
theorem d_MA_doItem_296 : decode b_MA_doItem 296 = .ok (.iconst 1, 1) := by decide +kernel
theorem d_MA_doItem_297 : decode b_MA_doItem 297 = .ok (.goto 4, 3) := by decide +kernel
theorem d_MA_doItem_300 : decode b_MA_doItem 300 = .ok (.iconst 0, 1) := by decide +kernel
theorem d_MA_doItem_301 : decode b_MA_doItem 301 = .ok (.putfield 89, 3) := by decide +kernel
theorem d_MA_doItem_304 : decode b_MA_doItem 304 = .ok (.getstatic 86, 3) := by decide +kernel
theorem d_MA_doItem_307 : decode b_MA_doItem 307 = .ok (.areturn, 1) := by decide +kernel
theorem d_MA_doItem_308 : decode b_MA_doItem 308 = .ok (.getstatic 86, 3) := by decide +kernel
theorem d_MA_doItem_311 : decode b_MA_doItem 311 = .ok (.areturn, 1) := by decide +kernel
theorem d_MA_raise_0 : decode b_MA_raise 0 = .ok (.aload_n 1, 1) := by decide +kernel
theorem d_MA_raise_1 : decode b_MA_raise 1 = .ok (.aload_n 0, 1) := by decide +kernel
theorem d_MA_raise_2 : decode b_MA_raise 2 = .ok (.getfield 26, 3) := by decide +kernel
theorem d_MA_raise_5 : decode b_MA_raise 5 = .ok (.iload_n 2, 1) := by decide +kernel
theorem d_MA_raise_6 : decode b_MA_raise 6 = .ok (.iload_n 3, 1) := by decide +kernel
theorem d_MA_raise_7 : decode b_MA_raise 7 = .ok (.invokevirtual 176, 3) := by decide +kernel
theorem d_MA_raise_10 : decode b_MA_raise 10 = .ok (.putfield 76, 3) := by decide +kernel
theorem d_MA_raise_13 : decode b_MA_raise 13 = .ok (.getstatic 73, 3) := by decide +kernel
theorem d_MA_raise_16 : decode b_MA_raise 16 = .ok (.areturn, 1) := by decide +kernel
theorem d_MA_doDivide_0 : decode b_MA_doDivide 0 = .ok (.iload_n 2, 1) := by decide +kernel
theorem d_MA_doDivide_1 : decode b_MA_doDivide 1 = .ok (.ifCond .ne 12, 3) := by decide +kernel
theorem d_MA_doDivide_4 : decode b_MA_doDivide 4 = .ok (.aload_n 0, 1) := by decide +kernel
theorem d_MA_doDivide_5 : decode b_MA_doDivide 5 = .ok (.aload_n 1, 1) := by decide +kernel
theorem d_MA_doDivide_6 : decode b_MA_doDivide 6 = .ok (.bipush 6, 2) := by decide +kernel
theorem d_MA_doDivide_8 : decode b_MA_doDivide 8 = .ok (.iconst (-1), 1) := by decide +kernel
theorem d_MA_doDivide_9 : decode b_MA_doDivide 9 = .ok (.invokevirtual 99, 3) := by decide +kernel
theorem d_MA_doDivide_12 : decode b_MA_doDivide 12 = .ok (.areturn, 1) := by decide +kernel
theorem d_MA_doDivide_13 : decode b_MA_doDivide 13 = .ok (.aload_n 1, 1) := by decide +kernel
theorem d_MA_doDivide_14 : decode b_MA_doDivide 14 = .ok (.dup, 1) := by decide +kernel
theorem d_MA_doDivide_15 : decode b_MA_doDivide 15 = .ok (.getfield 89, 3) := by decide +kernel
theorem d_MA_doDivide_18 : decode b_MA_doDivide 18 = .ok (.iload_n 2, 1) := by decide +kernel
theorem d_MA_doDivide_19 : decode b_MA_doDivide 19 = .ok (.idiv, 1) := by decide +kernel
theorem d_MA_doDivide_20 : decode b_MA_doDivide 20 = .ok (.putfield 89, 3) := by decide +kernel
theorem d_MA_doDivide_23 : decode b_MA_doDivide 23 = .ok (.getstatic 86, 3) := by decide +kernel
theorem d_MA_doDivide_26 : decode b_MA_doDivide 26 = .ok (.areturn, 1) := by decide +kernel
theorem d_MA_doTimes_0 : decode b_MA_doTimes 0 = .ok (.iconst 0, 1) := by decide +kernel
theorem d_MA_doTimes_1 : decode b_MA_doTimes 1 = .ok (.istore 4, 2) := by decide +kernel
theorem d_MA_doTimes_3 : decode b_MA_doTimes 3 = .ok (.iload 4, 2) := by decide +kernel
theorem d_MA_doTimes_5 : decode b_MA_doTimes 5 = .ok (.iload_n 3, 1) := by decide +kernel
theorem d_MA_doTimes_6 : decode b_MA_doTimes 6 = .ok (.if_icmp .ge 48, 3) := by decide +kernel
theorem d_MA_doTimes_9 : decode b_MA_doTimes 9 = .ok (.aload_n 0, 1) := by decide +kernel
theorem d_MA_doTimes_10 : decode b_MA_doTimes 10 = .ok (.iload_n 1, 1) := by decide +kernel
theorem d_MA_doTimes_11 : decode b_MA_doTimes 11 = .ok (.iload_n 2, 1) := by decide +kernel
theorem d_MA_doTimes_12 : decode b_MA_doTimes 12 = .ok (.invokevirtual 82, 3) := by decide +kernel
theorem d_MA_doTimes_15 : decode b_MA_doTimes 15 = .ok (.astore 5, 2) := by decide +kernel
theorem d_MA_doTimes_17 : decode b_MA_doTimes 17 = .ok (.aload 5, 2) := by decide +kernel
theorem d_MA_doTimes_19 : decode b_MA_doTimes 19 = .ok (.getstatic 148, 3) := by decide +kernel
theorem d_MA_doTimes_22 : decode b_MA_doTimes 22 = .ok (.if_acmp .ne 7, 3) := by decide +kernel
theorem d_MA_doTimes_25 : decode b_MA_doTimes 25 = .ok (.getstatic 86, 3) := by decide +kernel
theorem d_MA_doTimes_28 : decode b_MA_doTimes 28 = .ok (.areturn, 1) := by decide +kernel
theorem d_MA_doTimes_29 : decode b_MA_doTimes 29 = .ok (.aload 5, 2) := by decide +kernel
theorem d_MA_doTimes_31 : decode b_MA_doTimes 31 = .ok (.getstatic 86, 3) := by decide +kernel
theorem d_MA_doTimes_34 : decode b_MA_doTimes 34 = .ok (.if_acmp .eq 14, 3) := by decide +kernel
theorem d_MA_doTimes_37 : decode b_MA_doTimes 37 = .ok (.aload 5, 2) := by decide +kernel
theorem d_MA_doTimes_39 : decode b_MA_doTimes 39 = .ok (.getstatic 151, 3) := by decide +kernel
theorem d_MA_doTimes_42 : decode b_MA_doTimes 42 = .ok (.if_acmp .eq 6, 3) := by decide +kernel
theorem d_MA_doTimes_45 : decode b_MA_doTimes 45 = .ok (.aload 5, 2) := by decide +kernel
theorem d_MA_doTimes_47 : decode b_MA_doTimes 47 = .ok (.areturn, 1) := by decide +kernel
theorem d_MA_doTimes_48 : decode b_MA_doTimes 48 = .ok (.iinc 4 1, 3) := by decide +kernel
theorem d_MA_doTimes_51 : decode b_MA_doTimes 51 = .ok (.goto (-48), 3) := by decide +kernel
theorem d_MA_doTimes_54 : decode b_MA_doTimes 54 = .ok (.getstatic 86, 3) := by decide +kernel
theorem d_MA_doTimes_57 : decode b_MA_doTimes 57 = .ok (.areturn, 1) := by decide +kernel
theorem d_MA_doTry_0 : decode b_MA_doTry 0 = .ok (.aload_n 0, 1) := by decide +kernel
theorem d_MA_doTry_1 : decode b_MA_doTry 1 = .ok (.iload_n 1, 1) := by decide +kernel
theorem d_MA_doTry_2 : decode b_MA_doTry 2 = .ok (.invokevirtual 113, 3) := by decide +kernel
theorem d_MA_doTry_5 : decode b_MA_doTry 5 = .ok (.astore_n 3, 1) := by decide +kernel
theorem d_MA_doTry_6 : decode b_MA_doTry 6 = .ok (.aload_n 0, 1) := by decide +kernel
theorem d_MA_doTry_7 : decode b_MA_doTry 7 = .ok (.iload_n 1, 1) := by decide +kernel
theorem d_MA_doTry_8 : decode b_MA_doTry 8 = .ok (.iload_n 2, 1) := by decide +kernel
theorem d_MA_doTry_9 : decode b_MA_doTry 9 = .ok (.invokevirtual 82, 3) := by decide +kernel
theorem d_MA_doTry_12 : decode b_MA_doTry 12 = .ok (.astore 4, 2) := by decide +kernel
theorem d_MA_doTry_14 : decode b_MA_doTry 14 = .ok (.aload 4, 2) := by decide +kernel
theorem d_MA_doTry_16 : decode b_MA_doTry 16 = .ok (.getstatic 73, 3) := by decide +kernel
theorem d_MA_doTry_19 : decode b_MA_doTry 19 = .ok (.if_acmp .ne 7, 3) := by decide +kernel
theorem d_MA_doTry_22 : decode b_MA_doTry 22 = .ok (.iconst 1, 1) := by decide +kernel
theorem d_MA_doTry_23 : decode b_MA_doTry 23 = .ok (.goto 4, 3) := by decide +kernel
theorem d_MA_doTry_26 : decode b_MA_doTry 26 = .ok (.iconst 0, 1) := by decide +kernel
theorem d_MA_doTry_27 : decode b_MA_doTry 27 = .ok (.istore 5, 2) := by decide +kernel
theorem d_MA_doTry_29 : decode b_MA_doTry 29 = .ok (.aload_n 3, 1) := by decide +kernel
theorem d_MA_doTry_30 : decode b_MA_doTry 30 = .ok (.getfield 120, 3) := by decide +kernel
theorem d_MA_doTry_33 : decode b_MA_doTry 33 = .ok (.iload_n 2, 1) := by decide +kernel
theorem d_MA_doTry_34 : decode b_MA_doTry 34 = .ok (.iaload, 1) := by decide +kernel
theorem d_MA_doTry_35 : decode b_MA_doTry 35 = .ok (.iconst 1, 1) := by decide +kernel
theorem d_MA_doTry_36 : decode b_MA_doTry 36 = .ok (.iadd, 1) := by decide +kernel
theorem d_MA_doTry_37 : decode b_MA_doTry 37 = .ok (.istore 6, 2) := by decide +kernel
theorem d_MA_doTry_39 : decode b_MA_doTry 39 = .ok (.iconst 0, 1) := by decide +kernel
theorem d_MA_doTry_40 : decode b_MA_doTry 40 = .ok (.istore 7, 2) := by decide +kernel
theorem d_MA_doTry_42 : decode b_MA_doTry 42 = .ok (.iload 7, 2) := by decide +kernel
theorem d_MA_doTry_44 : decode b_MA_doTry 44 = .ok (.aload_n 3, 1) := by decide +kernel
theorem d_MA_doTry_45 : decode b_MA_doTry 45 = .ok (.iload_n 2, 1) := by decide +kernel
theorem d_MA_doTry_46 : decode b_MA_doTry 46 = .ok (.invokevirtual 180, 3) := by decide +kernel
theorem d_MA_doTry_49 : decode b_MA_doTry 49 = .ok (.if_icmp .ge 56, 3) := by decide +kernel
theorem d_MA_doTry_52 : decode b_MA_doTry 52 = .ok (.iload 6, 2) := by decide +kernel
theorem d_MA_doTry_54 : decode b_MA_doTry 54 = .ok (.aload_n 3, 1) := by decide +kernel
theorem d_MA_doTry_55 : decode b_MA_doTry 55 = .ok (.getfield 117, 3) := by decide +kernel
theorem d_MA_doTry_58 : decode b_MA_doTry 58 = .ok (.if_icmp .ge 47, 3) := by decide +kernel
theorem d_MA_doTry_61 : decode b_MA_doTry 61 = .ok (.iload 5, 2) := by decide +kernel
theorem d_MA_doTry_63 : decode b_MA_doTry 63 = .ok (.ifCond .eq 25, 3) := by decide +kernel
theorem d_MA_doTry_66 : decode b_MA_doTry 66 = .ok (.aload_n 0, 1) := by decide +kernel
theorem d_MA_doTry_67 : decode b_MA_doTry 67 = .ok (.iload_n 1, 1) := by decide +kernel
theorem d_MA_doTry_68 : decode b_MA_doTry 68 = .ok (.iload 6, 2) := by decide +kernel
theorem d_MA_doTry_70 : decode b_MA_doTry 70 = .ok (.invokevirtual 183, 3) := by decide +kernel
theorem d_MA_doTry_73 : decode b_MA_doTry 73 = .ok (.ifCond .eq 15, 3) := by decide +kernel
theorem d_MA_doTry_76 : decode b_MA_doTry 76 = .ok (.iconst 0, 1) := by decide +kernel
theorem d_MA_doTry_77 : decode b_MA_doTry 77 = .ok (.istore 5, 2) := by decide +kernel
theorem d_MA_doTry_79 : decode b_MA_doTry 79 = .ok (.aload_n 0, 1) := by decide +kernel
theorem d_MA_doTry_80 : decode b_MA_doTry 80 = .ok (.iload_n 1, 1) := by decide +kernel
theorem d_MA_doTry_81 : decode b_MA_doTry 81 = .ok (.iload 6, 2) := by decide +kernel
theorem d_MA_doTry_83 : decode b_MA_doTry 83 = .ok (.invokevirtual 187, 3) := by decide +kernel
theorem d_MA_doTry_86 : decode b_MA_doTry 86 = .ok (.astore 4, 2) := by decide +kernel
theorem d_MA_doTry_88 : decode b_MA_doTry 88 = .ok (.aload_n 3, 1) := by decide +kernel
theorem d_MA_doTry_89 : decode b_MA_doTry 89 = .ok (.getfield 120, 3) := by decide +kernel
theorem d_MA_doTry_92 : decode b_MA_doTry 92 = .ok (.iload 6, 2) := by decide +kernel
theorem d_MA_doTry_94 : decode b_MA_doTry 94 = .ok (.iaload, 1) := by decide +kernel
theorem d_MA_doTry_95 : decode b_MA_doTry 95 = .ok (.iconst 1, 1) := by decide +kernel
theorem d_MA_doTry_96 : decode b_MA_doTry 96 = .ok (.iadd, 1) := by decide +kernel
theorem d_MA_doTry_97 : decode b_MA_doTry 97 = .ok (.istore 6, 2) := by decide +kernel
theorem d_MA_doTry_99 : decode b_MA_doTry 99 = .ok (.iinc 7 1, 3) := by decide +kernel
theorem d_MA_doTry_102 : decode b_MA_doTry 102 = .ok (.goto (-60), 3) := by decide +kernel
theorem d_MA_doTry_105 : decode b_MA_doTry 105 = .ok (.aload 4, 2) := by decide +kernel
theorem d_MA_doTry_107 : decode b_MA_doTry 107 = .ok (.getstatic 67, 3) := by decide +kernel
theorem d_MA_doTry_110 : decode b_MA_doTry 110 = .ok (.if_acmp .eq 20, 3) := by decide +kernel
theorem d_MA_doTry_113 : decode b_MA_doTry 113 = .ok (.aload_n 3, 1) := by decide +kernel
theorem d_MA_doTry_114 : decode b_MA_doTry 114 = .ok (.iload_n 2, 1) := by decide +kernel
theorem d_MA_doTry_115 : decode b_MA_doTry 115 = .ok (.invokevirtual 190, 3) := by decide +kernel
theorem d_MA_doTry_118 : decode b_MA_doTry 118 = .ok (.ifCond .eq 12, 3) := by decide +kernel
theorem d_MA_doTry_121 : decode b_MA_doTry 121 = .ok (.iload 6, 2) := by decide +kernel
theorem d_MA_doTry_123 : decode b_MA_doTry 123 = .ok (.aload_n 3, 1) := by decide +kernel
theorem d_MA_doTry_124 : decode b_MA_doTry 124 = .ok (.getfield 117, 3) := by decide +kernel
theorem d_MA_doTry_127 : decode b_MA_doTry 127 = .ok (.if_icmp .lt 6, 3) := by decide +kernel
theorem d_MA_doTry_130 : decode b_MA_doTry 130 = .ok (.aload 4, 2) := by decide +kernel
theorem d_MA_doTry_132 : decode b_MA_doTry 132 = .ok (.areturn, 1) := by decide +kernel
theorem d_MA_doTry_133 : decode b_MA_doTry 133 = .ok (.aload_n 0, 1) := by decide +kernel
theorem d_MA_doTry_134 : decode b_MA_doTry 134 = .ok (.iload_n 1, 1) := by decide +kernel
theorem d_MA_doTry_135 : decode b_MA_doTry 135 = .ok (.iload 6, 2) := by decide +kernel
theorem d_MA_doTry_137 : decode b_MA_doTry 137 = .ok (.aload 4, 2) := by decide +kernel
theorem d_MA_doTry_139 : decode b_MA_doTry 139 = .ok (.invokevirtual 193, 3) := by decide +kernel
theorem d_MA_doTry_142 : decode b_MA_doTry 142 = .ok (.areturn, 1) := by decide +kernel
theorem d_MA_catches_0 : decode b_MA_catches 0 = .ok (.aload_n 0, 1) := by decide +kernel
theorem d_MA_catches_1 : decode b_MA_catches 1 = .ok (.getfield 26, 3) := by decide +kernel
theorem d_MA_catches_4 : decode b_MA_catches 4 = .ok (.aload_n 0, 1) := by decide +kernel
theorem d_MA_catches_5 : decode b_MA_catches 5 = .ok (.getfield 19, 3) := by decide +kernel
theorem d_MA_catches_8 : decode b_MA_catches 8 = .ok (.iload_n 1, 1) := by decide +kernel
theorem d_MA_catches_9 : decode b_MA_catches 9 = .ok (.aaload, 1) := by decide +kernel
theorem d_MA_catches_10 : decode b_MA_catches 10 = .ok (.getfield 76, 3) := by decide +kernel
theorem d_MA_catches_13 : decode b_MA_catches 13 = .ok (.invokevirtual 197, 3) := by decide +kernel
theorem d_MA_catches_16 : decode b_MA_catches 16 = .ok (.aload_n 0, 1) := by decide +kernel
theorem d_MA_catches_17 : decode b_MA_catches 17 = .ok (.iload_n 1, 1) := by decide +kernel
theorem d_MA_catches_18 : decode b_MA_catches 18 = .ok (.invokevirtual 113, 3) := by decide +kernel
theorem d_MA_catches_21 : decode b_MA_catches 21 = .ok (.getfield 130, 3) := by decide +kernel
theorem d_MA_catches_24 : decode b_MA_catches 24 = .ok (.iload_n 2, 1) := by decide +kernel
theorem d_MA_catches_25 : decode b_MA_catches 25 = .ok (.iaload, 1) := by decide +kernel
theorem d_MA_catches_26 : decode b_MA_catches 26 = .ok (.invokestatic 200, 3) := by decide +kernel
theorem d_MA_catches_29 : decode b_MA_catches 29 = .ok (.ireturn, 1) := by decide +kernel
theorem d_MA_doCatch_0 : decode b_MA_doCatch 0 = .ok (.aload_n 0, 1) := by decide +kernel
theorem d_MA_doCatch_1 : decode b_MA_doCatch 1 = .ok (.getfield 19, 3) := by decide +kernel
theorem d_MA_doCatch_4 : decode b_MA_doCatch 4 = .ok (.iload_n 1, 1) := by decide +kernel
theorem d_MA_doCatch_5 : decode b_MA_doCatch 5 = .ok (.aaload, 1) := by decide +kernel
theorem d_MA_doCatch_6 : decode b_MA_doCatch 6 = .ok (.astore_n 3, 1) := by decide +kernel
theorem d_MA_doCatch_7 : decode b_MA_doCatch 7 = .ok (.aload_n 3, 1) := by decide +kernel
theorem d_MA_doCatch_8 : decode b_MA_doCatch 8 = .ok (.getfield 154, 3) := by decide +kernel
theorem d_MA_doCatch_11 : decode b_MA_doCatch 11 = .ok (.istore 4, 2) := by decide +kernel
theorem d_MA_doCatch_13 : decode b_MA_doCatch 13 = .ok (.aload_n 3, 1) := by decide +kernel
theorem d_MA_doCatch_14 : decode b_MA_doCatch 14 = .ok (.aload_n 3, 1) := by decide +kernel
theorem d_MA_doCatch_15 : decode b_MA_doCatch 15 = .ok (.getfield 76, 3) := by decide +kernel
theorem d_MA_doCatch_18 : decode b_MA_doCatch 18 = .ok (.putfield 154, 3) := by decide +kernel
theorem d_MA_doCatch_21 : decode b_MA_doCatch 21 = .ok (.aload_n 0, 1) := by decide +kernel
theorem d_MA_doCatch_22 : decode b_MA_doCatch 22 = .ok (.iload_n 1, 1) := by decide +kernel
theorem d_MA_doCatch_23 : decode b_MA_doCatch 23 = .ok (.iload_n 2, 1) := by decide +kernel
theorem d_MA_doCatch_24 : decode b_MA_doCatch 24 = .ok (.invokevirtual 82, 3) := by decide +kernel
theorem d_MA_doCatch_27 : decode b_MA_doCatch 27 = .ok (.astore 5, 2) := by decide +kernel
theorem d_MA_doCatch_29 : decode b_MA_doCatch 29 = .ok (.aload_n 3, 1) := by decide +kernel
theorem d_MA_doCatch_30 : decode b_MA_doCatch 30 = .ok (.iload 4, 2) := by decide +kernel
theorem d_MA_doCatch_32 : decode b_MA_doCatch 32 = .ok (.putfield 154, 3) := by decide +kernel
theorem d_MA_doCatch_35 : decode b_MA_doCatch 35 = .ok (.aload 5, 2) := by decide +kernel
theorem d_MA_doCatch_37 : decode b_MA_doCatch 37 = .ok (.areturn, 1) := by decide +kernel
theorem d_MA_doLast_0 : decode b_MA_doLast 0 = .ok (.aload_n 0, 1) := by decide +kernel
theorem d_MA_doLast_1 : decode b_MA_doLast 1 = .ok (.getfield 19, 3) := by decide +kernel
theorem d_MA_doLast_4 : decode b_MA_doLast 4 = .ok (.iload_n 1, 1) := by decide +kernel
theorem d_MA_doLast_5 : decode b_MA_doLast 5 = .ok (.aaload, 1) := by decide +kernel
theorem d_MA_doLast_6 : decode b_MA_doLast 6 = .ok (.astore 4, 2) := by decide +kernel
theorem d_MA_doLast_8 : decode b_MA_doLast 8 = .ok (.aload 4, 2) := by decide +kernel
theorem d_MA_doLast_10 : decode b_MA_doLast 10 = .ok (.getfield 76, 3) := by decide +kernel
theorem d_MA_doLast_13 : decode b_MA_doLast 13 = .ok (.istore 5, 2) := by decide +kernel
theorem d_MA_doLast_15 : decode b_MA_doLast 15 = .ok (.aload_n 0, 1) := by decide +kernel
theorem d_MA_doLast_16 : decode b_MA_doLast 16 = .ok (.iload_n 1, 1) := by decide +kernel
theorem d_MA_doLast_17 : decode b_MA_doLast 17 = .ok (.iload_n 2, 1) := by decide +kernel
theorem d_MA_doLast_18 : decode b_MA_doLast 18 = .ok (.invokevirtual 82, 3) := by decide +kernel
theorem d_MA_doLast_21 : decode b_MA_doLast 21 = .ok (.astore 6, 2) := by decide +kernel
theorem d_MA_doLast_23 : decode b_MA_doLast 23 = .ok (.aload 6, 2) := by decide +kernel
theorem d_MA_doLast_25 : decode b_MA_doLast 25 = .ok (.getstatic 86, 3) := by decide +kernel
theorem d_MA_doLast_28 : decode b_MA_doLast 28 = .ok (.if_acmp .eq 6, 3) := by decide +kernel
theorem d_MA_doLast_31 : decode b_MA_doLast 31 = .ok (.aload 6, 2) := by decide +kernel
theorem d_MA_doLast_33 : decode b_MA_doLast 33 = .ok (.areturn, 1) := by decide +kernel
theorem d_MA_doLast_34 : decode b_MA_doLast 34 = .ok (.aload 4, 2) := by decide +kernel
theorem d_MA_doLast_36 : decode b_MA_doLast 36 = .ok (.iload 5, 2) := by decide +kernel
theorem d_MA_doLast_38 : decode b_MA_doLast 38 = .ok (.putfield 76, 3) := by decide +kernel
theorem d_MA_doLast_41 : decode b_MA_doLast 41 = .ok (.aload_n 3, 1) := by decide +kernel
theorem d_MA_doLast_42 : decode b_MA_doLast 42 = .ok (.areturn, 1) := by decide +kernel
theorem d_MA_doLock_0 : decode b_MA_doLock 0 = .ok (.aload_n 0, 1) := by decide +kernel
theorem d_MA_doLock_1 : decode b_MA_doLock 1 = .ok (.getfield 33, 3) := by decide +kernel
theorem d_MA_doLock_4 : decode b_MA_doLock 4 = .ok (.iload_n 3, 1) := by decide +kernel
theorem d_MA_doLock_5 : decode b_MA_doLock 5 = .ok (.invokevirtual 203, 3) := by decide +kernel
theorem d_MA_doLock_8 : decode b_MA_doLock 8 = .ok (.aload_n 0, 1) := by decide +kernel
theorem d_MA_doLock_9 : decode b_MA_doLock 9 = .ok (.iload_n 1, 1) := by decide +kernel
theorem d_MA_doLock_10 : decode b_MA_doLock 10 = .ok (.iload_n 2, 1) := by decide +kernel
theorem d_MA_doLock_11 : decode b_MA_doLock 11 = .ok (.invokevirtual 82, 3) := by decide +kernel
theorem d_MA_doLock_14 : decode b_MA_doLock 14 = .ok (.astore 4, 2) := by decide +kernel
theorem d_MA_doLock_16 : decode b_MA_doLock 16 = .ok (.aload_n 0, 1) := by decide +kernel
theorem d_MA_doLock_17 : decode b_MA_doLock 17 = .ok (.getfield 33, 3) := by decide +kernel
theorem d_MA_doLock_20 : decode b_MA_doLock 20 = .ok (.iload_n 3, 1) := by decide +kernel
theorem d_MA_doLock_21 : decode b_MA_doLock 21 = .ok (.iconst 1, 1) := by decide +kernel
theorem d_MA_doLock_22 : decode b_MA_doLock 22 = .ok (.invokevirtual 107, 3) := by decide +kernel
theorem d_MA_doLock_25 : decode b_MA_doLock 25 = .ok (.aload 4, 2) := by decide +kernel
theorem d_MA_doLock_27 : decode b_MA_doLock 27 = .ok (.areturn, 1) := by decide +kernel
theorem d_MA_doEnter_0 : decode b_MA_doEnter 0 = .ok (.aload_n 1, 1) := by decide +kernel
theorem d_MA_doEnter_1 : decode b_MA_doEnter 1 = .ok (.getfield 103, 3) := by decide +kernel
theorem d_MA_doEnter_4 : decode b_MA_doEnter 4 = .ok (.iload_n 2, 1) := by decide +kernel
theorem d_MA_doEnter_5 : decode b_MA_doEnter 5 = .ok (.dup2, 1) := by decide +kernel
theorem d_MA_doEnter_6 : decode b_MA_doEnter 6 = .ok (.iaload, 1) := by decide +kernel
theorem d_MA_doEnter_7 : decode b_MA_doEnter 7 = .ok (.iconst 1, 1) := by decide +kernel
theorem d_MA_doEnter_8 : decode b_MA_doEnter 8 = .ok (.iadd, 1) := by decide +kernel
theorem d_MA_doEnter_9 : decode b_MA_doEnter 9 = .ok (.iastore, 1) := by decide +kernel
theorem d_MA_doEnter_10 : decode b_MA_doEnter 10 = .ok (.aload_n 0, 1) := by decide +kernel
theorem d_MA_doEnter_11 : decode b_MA_doEnter 11 = .ok (.getfield 33, 3) := by decide +kernel
theorem d_MA_doEnter_14 : decode b_MA_doEnter 14 = .ok (.iload_n 2, 1) := by decide +kernel
theorem d_MA_doEnter_15 : decode b_MA_doEnter 15 = .ok (.invokevirtual 203, 3) := by decide +kernel
theorem d_MA_doEnter_18 : decode b_MA_doEnter 18 = .ok (.getstatic 86, 3) := by decide +kernel
theorem d_MA_doEnter_21 : decode b_MA_doEnter 21 = .ok (.areturn, 1) := by decide +kernel
theorem d_MA_doLeave_0 : decode b_MA_doLeave 0 = .ok (.aload_n 1, 1) := by decide +kernel
theorem d_MA_doLeave_1 : decode b_MA_doLeave 1 = .ok (.getfield 103, 3) := by decide +kernel
theorem d_MA_doLeave_4 : decode b_MA_doLeave 4 = .ok (.iload_n 2, 1) := by decide +kernel
theorem d_MA_doLeave_5 : decode b_MA_doLeave 5 = .ok (.iaload, 1) := by decide +kernel
theorem d_MA_doLeave_6 : decode b_MA_doLeave 6 = .ok (.ifCond .gt 11, 3) := by decide +kernel
theorem d_MA_doLeave_9 : decode b_MA_doLeave 9 = .ok (.aload_n 0, 1) := by decide +kernel
theorem d_MA_doLeave_10 : decode b_MA_doLeave 10 = .ok (.aload_n 1, 1) := by decide +kernel
theorem d_MA_doLeave_11 : decode b_MA_doLeave 11 = .ok (.iconst 4, 1) := by decide +kernel
theorem d_MA_doLeave_12 : decode b_MA_doLeave 12 = .ok (.iconst (-1), 1) := by decide +kernel
theorem d_MA_doLeave_13 : decode b_MA_doLeave 13 = .ok (.invokevirtual 99, 3) := by decide +kernel
theorem d_MA_doLeave_16 : decode b_MA_doLeave 16 = .ok (.areturn, 1) := by decide +kernel
theorem d_MA_doLeave_17 : decode b_MA_doLeave 17 = .ok (.aload_n 1, 1) := by decide +kernel
theorem d_MA_doLeave_18 : decode b_MA_doLeave 18 = .ok (.getfield 103, 3) := by decide +kernel
theorem d_MA_doLeave_21 : decode b_MA_doLeave 21 = .ok (.iload_n 2, 1) := by decide +kernel
theorem d_MA_doLeave_22 : decode b_MA_doLeave 22 = .ok (.dup2, 1) := by decide +kernel
theorem d_MA_doLeave_23 : decode b_MA_doLeave 23 = .ok (.iaload, 1) := by decide +kernel
theorem d_MA_doLeave_24 : decode b_MA_doLeave 24 = .ok (.iconst 1, 1) := by decide +kernel
theorem d_MA_doLeave_25 : decode b_MA_doLeave 25 = .ok (.isub, 1) := by decide +kernel
theorem d_MA_doLeave_26 : decode b_MA_doLeave 26 = .ok (.iastore, 1) := by decide +kernel
theorem d_MA_doLeave_27 : decode b_MA_doLeave 27 = .ok (.aload_n 0, 1) := by decide +kernel
theorem d_MA_doLeave_28 : decode b_MA_doLeave 28 = .ok (.getfield 33, 3) := by decide +kernel
theorem d_MA_doLeave_31 : decode b_MA_doLeave 31 = .ok (.iload_n 2, 1) := by decide +kernel
theorem d_MA_doLeave_32 : decode b_MA_doLeave 32 = .ok (.iconst 1, 1) := by decide +kernel
theorem d_MA_doLeave_33 : decode b_MA_doLeave 33 = .ok (.invokevirtual 107, 3) := by decide +kernel
theorem d_MA_doLeave_36 : decode b_MA_doLeave 36 = .ok (.getstatic 86, 3) := by decide +kernel
theorem d_MA_doLeave_39 : decode b_MA_doLeave 39 = .ok (.areturn, 1) := by decide +kernel
theorem d_MA_doCall_0 : decode b_MA_doCall 0 = .ok (.aload_n 0, 1) := by decide +kernel
theorem d_MA_doCall_1 : decode b_MA_doCall 1 = .ok (.getfield 19, 3) := by decide +kernel
theorem d_MA_doCall_4 : decode b_MA_doCall 4 = .ok (.iload_n 1, 1) := by decide +kernel
theorem d_MA_doCall_5 : decode b_MA_doCall 5 = .ok (.aaload, 1) := by decide +kernel
theorem d_MA_doCall_6 : decode b_MA_doCall 6 = .ok (.astore_n 3, 1) := by decide +kernel
theorem d_MA_doCall_7 : decode b_MA_doCall 7 = .ok (.iload_n 1, 1) := by decide +kernel
theorem d_MA_doCall_8 : decode b_MA_doCall 8 = .ok (.iconst 5, 1) := by decide +kernel
theorem d_MA_doCall_9 : decode b_MA_doCall 9 = .ok (.if_icmp .lt 11, 3) := by decide +kernel
theorem d_MA_doCall_12 : decode b_MA_doCall 12 = .ok (.aload_n 0, 1) := by decide +kernel
theorem d_MA_doCall_13 : decode b_MA_doCall 13 = .ok (.aload_n 3, 1) := by decide +kernel
theorem d_MA_doCall_14 : decode b_MA_doCall 14 = .ok (.iconst 5, 1) := by decide +kernel
theorem d_MA_doCall_15 : decode b_MA_doCall 15 = .ok (.iconst (-1), 1) := by decide +kernel
theorem d_MA_doCall_16 : decode b_MA_doCall 16 = .ok (.invokevirtual 99, 3) := by decide +kernel
theorem d_MA_doCall_19 : decode b_MA_doCall 19 = .ok (.areturn, 1) := by decide +kernel
theorem d_MA_doCall_20 : decode b_MA_doCall 20 = .ok (.aload_n 0, 1) := by decide +kernel
theorem d_MA_doCall_21 : decode b_MA_doCall 21 = .ok (.getfield 19, 3) := by decide +kernel
theorem d_MA_doCall_24 : decode b_MA_doCall 24 = .ok (.iload_n 1, 1) := by decide +kernel
theorem d_MA_doCall_25 : decode b_MA_doCall 25 = .ok (.iconst 1, 1) := by decide +kernel
theorem d_MA_doCall_26 : decode b_MA_doCall 26 = .ok (.iadd, 1) := by decide +kernel
theorem d_MA_doCall_27 : decode b_MA_doCall 27 = .ok (.aaload, 1) := by decide +kernel
theorem d_MA_doCall_28 : decode b_MA_doCall 28 = .ok (.astore 4, 2) := by decide +kernel
theorem d_MA_doCall_30 : decode b_MA_doCall 30 = .ok (.aload 4, 2) := by decide +kernel
theorem d_MA_doCall_32 : decode b_MA_doCall 32 = .ok (.iload_n 2, 1) := by decide +kernel
theorem d_MA_doCall_33 : decode b_MA_doCall 33 = .ok (.aload_n 3, 1) := by decide +kernel
theorem d_MA_doCall_34 : decode b_MA_doCall 34 = .ok (.getfield 89, 3) := by decide +kernel
theorem d_MA_doCall_37 : decode b_MA_doCall 37 = .ok (.invokevirtual 59, 3) := by decide +kernel
theorem d_MA_doCall_40 : decode b_MA_doCall 40 = .ok (.aload_n 0, 1) := by decide +kernel
theorem d_MA_doCall_41 : decode b_MA_doCall 41 = .ok (.iload_n 1, 1) := by decide +kernel
theorem d_MA_doCall_42 : decode b_MA_doCall 42 = .ok (.iconst 1, 1) := by decide +kernel
theorem d_MA_doCall_43 : decode b_MA_doCall 43 = .ok (.iadd, 1) := by decide +kernel
theorem d_MA_doCall_44 : decode b_MA_doCall 44 = .ok (.invokevirtual 63, 3) := by decide +kernel
theorem d_MA_doCall_47 : decode b_MA_doCall 47 = .ok (.astore 5, 2) := by decide +kernel
theorem d_MA_doCall_49 : decode b_MA_doCall 49 = .ok (.aload 5, 2) := by decide +kernel
theorem d_MA_doCall_51 : decode b_MA_doCall 51 = .ok (.getstatic 73, 3) := by decide +kernel
theorem d_MA_doCall_54 : decode b_MA_doCall 54 = .ok (.if_acmp .ne 12, 3) := by decide +kernel
theorem d_MA_doCall_57 : decode b_MA_doCall 57 = .ok (.aload_n 3, 1) := by decide +kernel
theorem d_MA_doCall_58 : decode b_MA_doCall 58 = .ok (.aload 4, 2) := by decide +kernel
theorem d_MA_doCall_60 : decode b_MA_doCall 60 = .ok (.getfield 76, 3) := by decide +kernel
theorem d_MA_doCall_63 : decode b_MA_doCall 63 = .ok (.putfield 76, 3) := by decide +kernel
theorem d_MA_doCall_66 : decode b_MA_doCall 66 = .ok (.aload 5, 2) := by decide +kernel
theorem d_MA_doCall_68 : decode b_MA_doCall 68 = .ok (.getstatic 92, 3) := by decide +kernel
theorem d_MA_doCall_71 : decode b_MA_doCall 71 = .ok (.if_acmp .eq 6, 3) := by decide +kernel
theorem d_MA_doCall_74 : decode b_MA_doCall 74 = .ok (.aload 5, 2) := by decide +kernel
theorem d_MA_doCall_76 : decode b_MA_doCall 76 = .ok (.areturn, 1) := by decide +kernel
theorem d_MA_doCall_77 : decode b_MA_doCall 77 = .ok (.aload_n 3, 1) := by decide +kernel
theorem d_MA_doCall_78 : decode b_MA_doCall 78 = .ok (.aload 4, 2) := by decide +kernel
theorem d_MA_doCall_80 : decode b_MA_doCall 80 = .ok (.getfield 76, 3) := by decide +kernel
theorem d_MA_doCall_83 : decode b_MA_doCall 83 = .ok (.putfield 89, 3) := by decide +kernel
theorem d_MA_doCall_86 : decode b_MA_doCall 86 = .ok (.getstatic 86, 3) := by decide +kernel
theorem d_MA_doCall_89 : decode b_MA_doCall 89 = .ok (.areturn, 1) := by decide +kernel
