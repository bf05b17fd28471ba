/-! decode rows, written by wip/gen/names.py -/
theorem d_MO_init_0 : decode b_MO_init 0 = .ok (.aload_n 0, 1) := by decide +kernel
theorem d_MO_init_1 : decode b_MO_init 1 = .ok (.invokespecial 1, 3) := by decide +kernel
theorem d_MO_init_4 : decode b_MO_init 4 = .ok (.aload_n 0, 1) := by decide +kernel
theorem d_MO_init_5 : decode b_MO_init 5 = .ok (.sipush 128, 3) := by decide +kernel
theorem d_MO_init_8 : decode b_MO_init 8 = .ok (.newarray .int, 2) := by decide +kernel
theorem d_MO_init_10 : decode b_MO_init 10 = .ok (.putfield 7, 3) := by decide +kernel
theorem d_MO_init_13 : decode b_MO_init 13 = .ok (.aload_n 0, 1) := by decide +kernel
theorem d_MO_init_14 : decode b_MO_init 14 = .ok (.sipush 128, 3) := by decide +kernel
theorem d_MO_init_17 : decode b_MO_init 17 = .ok (.newarray .int, 2) := by decide +kernel
theorem d_MO_init_19 : decode b_MO_init 19 = .ok (.putfield 13, 3) := by decide +kernel
theorem d_MO_init_22 : decode b_MO_init 22 = .ok (.aload_n 0, 1) := by decide +kernel
theorem d_MO_init_23 : decode b_MO_init 23 = .ok (.iconst 4, 1) := by decide +kernel
theorem d_MO_init_24 : decode b_MO_init 24 = .ok (.newarray .int, 2) := by decide +kernel
theorem d_MO_init_26 : decode b_MO_init 26 = .ok (.putfield 16, 3) := by decide +kernel
theorem d_MO_init_29 : decode b_MO_init 29 = .ok (.aload_n 0, 1) := by decide +kernel
theorem d_MO_init_30 : decode b_MO_init 30 = .ok (.iconst (-1), 1) := by decide +kernel
theorem d_MO_init_31 : decode b_MO_init 31 = .ok (.putfield 19, 3) := by decide +kernel
theorem d_MO_init_34 : decode b_MO_init 34 = .ok (.aload_n 0, 1) := by decide +kernel
theorem d_MO_init_35 : decode b_MO_init 35 = .ok (.bipush 80, 2) := by decide +kernel
theorem d_MO_init_37 : decode b_MO_init 37 = .ok (.newarray .int, 2) := by decide +kernel
theorem d_MO_init_39 : decode b_MO_init 39 = .ok (.putfield 23, 3) := by decide +kernel
theorem d_MO_init_42 : decode b_MO_init 42 = .ok (.aload_n 0, 1) := by decide +kernel
theorem d_MO_init_43 : decode b_MO_init 43 = .ok (.bipush 80, 2) := by decide +kernel
theorem d_MO_init_45 : decode b_MO_init 45 = .ok (.newarray .int, 2) := by decide +kernel
theorem d_MO_init_47 : decode b_MO_init 47 = .ok (.putfield 26, 3) := by decide +kernel
theorem d_MO_init_50 : decode b_MO_init 50 = .ok (.aload_n 0, 1) := by decide +kernel
theorem d_MO_init_51 : decode b_MO_init 51 = .ok (.bipush 80, 2) := by decide +kernel
theorem d_MO_init_53 : decode b_MO_init 53 = .ok (.newarray .int, 2) := by decide +kernel
theorem d_MO_init_55 : decode b_MO_init 55 = .ok (.putfield 29, 3) := by decide +kernel
theorem d_MO_init_58 : decode b_MO_init 58 = .ok (.aload_n 0, 1) := by decide +kernel
theorem d_MO_init_59 : decode b_MO_init 59 = .ok (.bipush 80, 2) := by decide +kernel
theorem d_MO_init_61 : decode b_MO_init 61 = .ok (.newarray .int, 2) := by decide +kernel
theorem d_MO_init_63 : decode b_MO_init 63 = .ok (.putfield 32, 3) := by decide +kernel
theorem d_MO_init_66 : decode b_MO_init 66 = .ok (.aload_n 0, 1) := by decide +kernel
theorem d_MO_init_67 : decode b_MO_init 67 = .ok (.bipush 18, 2) := by decide +kernel
theorem d_MO_init_69 : decode b_MO_init 69 = .ok (.newarray .int, 2) := by decide +kernel
theorem d_MO_init_71 : decode b_MO_init 71 = .ok (.putfield 35, 3) := by decide +kernel
theorem d_MO_init_74 : decode b_MO_init 74 = .ok (.aload_n 0, 1) := by decide +kernel
theorem d_MO_init_75 : decode b_MO_init 75 = .ok (.iconst 3, 1) := by decide +kernel
theorem d_MO_init_76 : decode b_MO_init 76 = .ok (.newarray .int, 2) := by decide +kernel
theorem d_MO_init_78 : decode b_MO_init 78 = .ok (.putfield 38, 3) := by decide +kernel
theorem d_MO_init_81 : decode b_MO_init 81 = .ok (.aload_n 0, 1) := by decide +kernel
theorem d_MO_init_82 : decode b_MO_init 82 = .ok (.sipush 700, 3) := by decide +kernel
theorem d_MO_init_85 : decode b_MO_init 85 = .ok (.newarray .int, 2) := by decide +kernel
theorem d_MO_init_87 : decode b_MO_init 87 = .ok (.putfield 41, 3) := by decide +kernel
theorem d_MO_init_90 : decode b_MO_init 90 = .ok (.aload_n 0, 1) := by decide +kernel
theorem d_MO_init_91 : decode b_MO_init 91 = .ok (.sipush 700, 3) := by decide +kernel
theorem d_MO_init_94 : decode b_MO_init 94 = .ok (.newarray .int, 2) := by decide +kernel
theorem d_MO_init_96 : decode b_MO_init 96 = .ok (.putfield 44, 3) := by decide +kernel
theorem d_MO_init_99 : decode b_MO_init 99 = .ok (.aload_n 0, 1) := by decide +kernel
theorem d_MO_init_100 : decode b_MO_init 100 = .ok (.bipush 32, 2) := by decide +kernel
theorem d_MO_init_102 : decode b_MO_init 102 = .ok (.newarray .int, 2) := by decide +kernel
theorem d_MO_init_104 : decode b_MO_init 104 = .ok (.putfield 47, 3) := by decide +kernel
theorem d_MO_init_107 : decode b_MO_init 107 = .ok (.return_, 1) := by decide +kernel
theorem d_MO_in_0 : decode b_MO_in 0 = .ok (.iload_n 0, 1) := by decide +kernel
theorem d_MO_in_1 : decode b_MO_in 1 = .ok (.iload_n 1, 1) := by decide +kernel
theorem d_MO_in_2 : decode b_MO_in 2 = .ok (.if_icmp .lt 12, 3) := by decide +kernel
theorem d_MO_in_5 : decode b_MO_in 5 = .ok (.iload_n 0, 1) := by decide +kernel
theorem d_MO_in_6 : decode b_MO_in 6 = .ok (.iload_n 2, 1) := by decide +kernel
theorem d_MO_in_7 : decode b_MO_in 7 = .ok (.if_icmp .gt 7, 3) := by decide +kernel
theorem d_MO_in_10 : decode b_MO_in 10 = .ok (.iconst 1, 1) := by decide +kernel
theorem d_MO_in_11 : decode b_MO_in 11 = .ok (.goto 4, 3) := by decide +kernel
theorem d_MO_in_14 : decode b_MO_in 14 = .ok (.iconst 0, 1) := by decide +kernel
theorem d_MO_in_15 : decode b_MO_in 15 = .ok (.ireturn, 1) := by decide +kernel
theorem d_MO_fits_0 : decode b_MO_fits 0 = .ok (.iload_n 0, 1) := by decide +kernel
theorem d_MO_fits_1 : decode b_MO_fits 1 = .ok (.tableswitch 121 3 16 #[71, 121, 121, 121, 78, 78, 86, 107, 107, 107, 114, 121, 107, 78], 71) := by decide +kernel
theorem d_MO_fits_72 : decode b_MO_fits 72 = .ok (.iload_n 1, 1) := by decide +kernel
theorem d_MO_fits_73 : decode b_MO_fits 73 = .ok (.iconst 0, 1) := by decide +kernel
theorem d_MO_fits_74 : decode b_MO_fits 74 = .ok (.iconst 5, 1) := by decide +kernel
theorem d_MO_fits_75 : decode b_MO_fits 75 = .ok (.invokestatic 50, 3) := by decide +kernel
theorem d_MO_fits_78 : decode b_MO_fits 78 = .ok (.ireturn, 1) := by decide +kernel
theorem d_MO_fits_79 : decode b_MO_fits 79 = .ok (.iload_n 1, 1) := by decide +kernel
theorem d_MO_fits_80 : decode b_MO_fits 80 = .ok (.iconst 0, 1) := by decide +kernel
theorem d_MO_fits_81 : decode b_MO_fits 81 = .ok (.bipush 6, 2) := by decide +kernel
theorem d_MO_fits_83 : decode b_MO_fits 83 = .ok (.invokestatic 50, 3) := by decide +kernel
theorem d_MO_fits_86 : decode b_MO_fits 86 = .ok (.ireturn, 1) := by decide +kernel
theorem d_MO_fits_87 : decode b_MO_fits 87 = .ok (.iload_n 1, 1) := by decide +kernel
theorem d_MO_fits_88 : decode b_MO_fits 88 = .ok (.iconst 0, 1) := by decide +kernel
theorem d_MO_fits_89 : decode b_MO_fits 89 = .ok (.bipush 6, 2) := by decide +kernel
theorem d_MO_fits_91 : decode b_MO_fits 91 = .ok (.invokestatic 50, 3) := by decide +kernel
theorem d_MO_fits_94 : decode b_MO_fits 94 = .ok (.ifCond .eq 12, 3) := by decide +kernel
theorem d_MO_fits_97 : decode b_MO_fits 97 = .ok (.iload_n 1, 1) := by decide +kernel
theorem d_MO_fits_98 : decode b_MO_fits 98 = .ok (.iconst 3, 1) := by decide +kernel
theorem d_MO_fits_99 : decode b_MO_fits 99 = .ok (.if_icmp .eq 7, 3) := by decide +kernel
theorem d_MO_fits_102 : decode b_MO_fits 102 = .ok (.iconst 1, 1) := by decide +kernel
theorem d_MO_fits_103 : decode b_MO_fits 103 = .ok (.goto 4, 3) := by decide +kernel
theorem d_MO_fits_106 : decode b_MO_fits 106 = .ok (.iconst 0, 1) := by decide +kernel
theorem d_MO_fits_107 : decode b_MO_fits 107 = .ok (.ireturn, 1) := by decide +kernel
theorem d_MO_fits_108 : decode b_MO_fits 108 = .ok (.iload_n 1, 1) := by decide +kernel
theorem d_MO_fits_109 : decode b_MO_fits 109 = .ok (.iconst 0, 1) := by decide +kernel
theorem d_MO_fits_110 : decode b_MO_fits 110 = .ok (.iconst 2, 1) := by decide +kernel
theorem d_MO_fits_111 : decode b_MO_fits 111 = .ok (.invokestatic 50, 3) := by decide +kernel
theorem d_MO_fits_114 : decode b_MO_fits 114 = .ok (.ireturn, 1) := by decide +kernel
theorem d_MO_fits_115 : decode b_MO_fits 115 = .ok (.iload_n 1, 1) := by decide +kernel
theorem d_MO_fits_116 : decode b_MO_fits 116 = .ok (.iconst 0, 1) := by decide +kernel
theorem d_MO_fits_117 : decode b_MO_fits 117 = .ok (.iconst 3, 1) := by decide +kernel
theorem d_MO_fits_118 : decode b_MO_fits 118 = .ok (.invokestatic 50, 3) := by decide +kernel
theorem d_MO_fits_121 : decode b_MO_fits 121 = .ok (.ireturn, 1) := by decide +kernel
theorem d_MO_fits_122 : decode b_MO_fits 122 = .ok (.iload_n 0, 1) := by decide +kernel
theorem d_MO_fits_123 : decode b_MO_fits 123 = .ok (.iconst 0, 1) := by decide +kernel
theorem d_MO_fits_124 : decode b_MO_fits 124 = .ok (.bipush 18, 2) := by decide +kernel
theorem d_MO_fits_126 : decode b_MO_fits 126 = .ok (.invokestatic 50, 3) := by decide +kernel
theorem d_MO_fits_129 : decode b_MO_fits 129 = .ok (.ireturn, 1) := by decide +kernel
theorem d_MO_token_0 : decode b_MO_token 0 = .ok (.iload_n 1, 1) := by decide +kernel
theorem d_MO_token_1 : decode b_MO_token 1 = .ok (.iconst 0, 1) := by decide +kernel
theorem d_MO_token_2 : decode b_MO_token 2 = .ok (.iconst 3, 1) := by decide +kernel
theorem d_MO_token_3 : decode b_MO_token 3 = .ok (.invokestatic 50, 3) := by decide +kernel
theorem d_MO_token_6 : decode b_MO_token 6 = .ok (.ifCond .eq 11, 3) := by decide +kernel
theorem d_MO_token_9 : decode b_MO_token 9 = .ok (.iload_n 2, 1) := by decide +kernel
theorem d_MO_token_10 : decode b_MO_token 10 = .ok (.iload_n 3, 1) := by decide +kernel
theorem d_MO_token_11 : decode b_MO_token 11 = .ok (.invokestatic 54, 3) := by decide +kernel
theorem d_MO_token_14 : decode b_MO_token 14 = .ok (.ifCond .ne 5, 3) := by decide +kernel
theorem d_MO_token_17 : decode b_MO_token 17 = .ok (.iconst (-1), 1) := by decide +kernel
theorem d_MO_token_18 : decode b_MO_token 18 = .ok (.ireturn, 1) := by decide +kernel
theorem d_MO_token_19 : decode b_MO_token 19 = .ok (.aload_n 0, 1) := by decide +kernel
theorem d_MO_token_20 : decode b_MO_token 20 = .ok (.getfield 16, 3) := by decide +kernel
theorem d_MO_token_23 : decode b_MO_token 23 = .ok (.iload_n 1, 1) := by decide +kernel
theorem d_MO_token_24 : decode b_MO_token 24 = .ok (.iaload, 1) := by decide +kernel
theorem d_MO_token_25 : decode b_MO_token 25 = .ok (.bipush 32, 2) := by decide +kernel
theorem d_MO_token_27 : decode b_MO_token 27 = .ok (.if_icmp .ne 6, 3) := by decide +kernel
theorem d_MO_token_30 : decode b_MO_token 30 = .ok (.bipush (-2), 2) := by decide +kernel
theorem d_MO_token_32 : decode b_MO_token 32 = .ok (.ireturn, 1) := by decide +kernel
theorem d_MO_token_33 : decode b_MO_token 33 = .ok (.aload_n 0, 1) := by decide +kernel
theorem d_MO_token_34 : decode b_MO_token 34 = .ok (.getfield 7, 3) := by decide +kernel
theorem d_MO_token_37 : decode b_MO_token 37 = .ok (.bipush 32, 2) := by decide +kernel
theorem d_MO_token_39 : decode b_MO_token 39 = .ok (.iload_n 1, 1) := by decide +kernel
theorem d_MO_token_40 : decode b_MO_token 40 = .ok (.imul, 1) := by decide +kernel
theorem d_MO_token_41 : decode b_MO_token 41 = .ok (.aload_n 0, 1) := by decide +kernel
theorem d_MO_token_42 : decode b_MO_token 42 = .ok (.getfield 16, 3) := by decide +kernel
theorem d_MO_token_45 : decode b_MO_token 45 = .ok (.iload_n 1, 1) := by decide +kernel
theorem d_MO_token_46 : decode b_MO_token 46 = .ok (.iaload, 1) := by decide +kernel
theorem d_MO_token_47 : decode b_MO_token 47 = .ok (.iadd, 1) := by decide +kernel
theorem d_MO_token_48 : decode b_MO_token 48 = .ok (.iload_n 2, 1) := by decide +kernel
theorem d_MO_token_49 : decode b_MO_token 49 = .ok (.iastore, 1) := by decide +kernel
theorem d_MO_token_50 : decode b_MO_token 50 = .ok (.aload_n 0, 1) := by decide +kernel
theorem d_MO_token_51 : decode b_MO_token 51 = .ok (.getfield 13, 3) := by decide +kernel
theorem d_MO_token_54 : decode b_MO_token 54 = .ok (.bipush 32, 2) := by decide +kernel
theorem d_MO_token_56 : decode b_MO_token 56 = .ok (.iload_n 1, 1) := by decide +kernel
theorem d_MO_token_57 : decode b_MO_token 57 = .ok (.imul, 1) := by decide +kernel
theorem d_MO_token_58 : decode b_MO_token 58 = .ok (.aload_n 0, 1) := by decide +kernel
theorem d_MO_token_59 : decode b_MO_token 59 = .ok (.getfield 16, 3) := by decide +kernel
theorem d_MO_token_62 : decode b_MO_token 62 = .ok (.iload_n 1, 1) := by decide +kernel
theorem d_MO_token_63 : decode b_MO_token 63 = .ok (.iaload, 1) := by decide +kernel
theorem d_MO_token_64 : decode b_MO_token 64 = .ok (.iadd, 1) := by decide +kernel
theorem d_MO_token_65 : decode b_MO_token 65 = .ok (.iload_n 3, 1) := by decide +kernel
theorem d_MO_token_66 : decode b_MO_token 66 = .ok (.iastore, 1) := by decide +kernel
theorem d_MO_token_67 : decode b_MO_token 67 = .ok (.aload_n 0, 1) := by decide +kernel
theorem d_MO_token_68 : decode b_MO_token 68 = .ok (.getfield 16, 3) := by decide +kernel
theorem d_MO_token_71 : decode b_MO_token 71 = .ok (.iload_n 1, 1) := by decide +kernel
theorem d_MO_token_72 : decode b_MO_token 72 = .ok (.dup2, 1) := by decide +kernel
theorem d_MO_token_73 : decode b_MO_token 73 = .ok (.iaload, 1) := by decide +kernel
theorem d_MO_token_74 : decode b_MO_token 74 = .ok (.iconst 1, 1) := by decide +kernel
theorem d_MO_token_75 : decode b_MO_token 75 = .ok (.iadd, 1) := by decide +kernel
theorem d_MO_token_76 : decode b_MO_token 76 = .ok (.iastore, 1) := by decide +kernel
theorem d_MO_token_77 : decode b_MO_token 77 = .ok (.aload_n 0, 1) := by decide +kernel
theorem d_MO_token_78 : decode b_MO_token 78 = .ok (.getfield 16, 3) := by decide +kernel
theorem d_MO_token_81 : decode b_MO_token 81 = .ok (.iload_n 1, 1) := by decide +kernel
theorem d_MO_token_82 : decode b_MO_token 82 = .ok (.iaload, 1) := by decide +kernel
theorem d_MO_token_83 : decode b_MO_token 83 = .ok (.ireturn, 1) := by decide +kernel
theorem d_MO_wipe_0 : decode b_MO_wipe 0 = .ok (.iload_n 1, 1) := by decide +kernel
theorem d_MO_wipe_1 : decode b_MO_wipe 1 = .ok (.iconst 0, 1) := by decide +kernel
theorem d_MO_wipe_2 : decode b_MO_wipe 2 = .ok (.iconst 3, 1) := by decide +kernel
theorem d_MO_wipe_3 : decode b_MO_wipe 3 = .ok (.invokestatic 50, 3) := by decide +kernel
theorem d_MO_wipe_6 : decode b_MO_wipe 6 = .ok (.ifCond .ne 5, 3) := by decide +kernel
theorem d_MO_wipe_9 : decode b_MO_wipe 9 = .ok (.iconst (-1), 1) := by decide +kernel
theorem d_MO_wipe_10 : decode b_MO_wipe 10 = .ok (.ireturn, 1) := by decide +kernel
theorem d_MO_wipe_11 : decode b_MO_wipe 11 = .ok (.aload_n 0, 1) := by decide +kernel
theorem d_MO_wipe_12 : decode b_MO_wipe 12 = .ok (.getfield 16, 3) := by decide +kernel
theorem d_MO_wipe_15 : decode b_MO_wipe 15 = .ok (.iload_n 1, 1) := by decide +kernel
theorem d_MO_wipe_16 : decode b_MO_wipe 16 = .ok (.iaload, 1) := by decide +kernel
theorem d_MO_wipe_17 : decode b_MO_wipe 17 = .ok (.istore_n 2, 1) := by decide +kernel
theorem d_MO_wipe_18 : decode b_MO_wipe 18 = .ok (.aload_n 0, 1) := by decide +kernel
theorem d_MO_wipe_19 : decode b_MO_wipe 19 = .ok (.getfield 16, 3) := by decide +kernel
theorem d_MO_wipe_22 : decode b_MO_wipe 22 = .ok (.iload_n 1, 1) := by decide +kernel
theorem d_MO_wipe_23 : decode b_MO_wipe 23 = .ok (.iconst 0, 1) := by decide +kernel
theorem d_MO_wipe_24 : decode b_MO_wipe 24 = .ok (.iastore, 1) := by decide +kernel
theorem d_MO_wipe_25 : decode b_MO_wipe 25 = .ok (.iload_n 2, 1) := by decide +kernel
theorem d_MO_wipe_26 : decode b_MO_wipe 26 = .ok (.ireturn, 1) := by decide +kernel
theorem d_MO_opens_0 : decode b_MO_opens 0 = .ok (.iload_n 0, 1) := by decide +kernel
theorem d_MO_opens_1 : decode b_MO_opens 1 = .ok (.iconst 3, 1) := by decide +kernel
theorem d_MO_opens_2 : decode b_MO_opens 2 = .ok (.if_icmp .eq 33, 3) := by decide +kernel
theorem d_MO_opens_5 : decode b_MO_opens 5 = .ok (.iload_n 0, 1) := by decide +kernel
theorem d_MO_opens_6 : decode b_MO_opens 6 = .ok (.bipush 9, 2) := by decide +kernel
theorem d_MO_opens_8 : decode b_MO_opens 8 = .ok (.if_icmp .eq 27, 3) := by decide +kernel
theorem d_MO_opens_11 : decode b_MO_opens 11 = .ok (.iload_n 0, 1) := by decide +kernel
theorem d_MO_opens_12 : decode b_MO_opens 12 = .ok (.bipush 10, 2) := by decide +kernel
theorem d_MO_opens_14 : decode b_MO_opens 14 = .ok (.if_icmp .eq 21, 3) := by decide +kernel
theorem d_MO_opens_17 : decode b_MO_opens 17 = .ok (.iload_n 0, 1) := by decide +kernel
theorem d_MO_opens_18 : decode b_MO_opens 18 = .ok (.bipush 14, 2) := by decide +kernel
theorem d_MO_opens_20 : decode b_MO_opens 20 = .ok (.if_icmp .eq 15, 3) := by decide +kernel
theorem d_MO_opens_23 : decode b_MO_opens 23 = .ok (.iload_n 0, 1) := by decide +kernel
theorem d_MO_opens_24 : decode b_MO_opens 24 = .ok (.bipush 16, 2) := by decide +kernel
theorem d_MO_opens_26 : decode b_MO_opens 26 = .ok (.if_icmp .eq 9, 3) := by decide +kernel
theorem d_MO_opens_29 : decode b_MO_opens 29 = .ok (.iload_n 0, 1) := by decide +kernel
theorem d_MO_opens_30 : decode b_MO_opens 30 = .ok (.bipush 17, 2) := by decide +kernel
theorem d_MO_opens_32 : decode b_MO_opens 32 = .ok (.if_icmp .ne 7, 3) := by decide +kernel
theorem d_MO_opens_35 : decode b_MO_opens 35 = .ok (.iconst 1, 1) := by decide +kernel
theorem d_MO_opens_36 : decode b_MO_opens 36 = .ok (.goto 4, 3) := by decide +kernel
theorem d_MO_opens_39 : decode b_MO_opens 39 = .ok (.iconst 0, 1) := by decide +kernel
theorem d_MO_opens_40 : decode b_MO_opens 40 = .ok (.ireturn, 1) := by decide +kernel
theorem d_MO_inside_0 : decode b_MO_inside 0 = .ok (.iconst 0, 1) := by decide +kernel
theorem d_MO_inside_1 : decode b_MO_inside 1 = .ok (.istore_n 2, 1) := by decide +kernel
theorem d_MO_inside_2 : decode b_MO_inside 2 = .ok (.iload_n 2, 1) := by decide +kernel
theorem d_MO_inside_3 : decode b_MO_inside 3 = .ok (.aload_n 0, 1) := by decide +kernel
theorem d_MO_inside_4 : decode b_MO_inside 4 = .ok (.getfield 58, 3) := by decide +kernel
theorem d_MO_inside_7 : decode b_MO_inside 7 = .ok (.if_icmp .ge 21, 3) := by decide +kernel
theorem d_MO_inside_10 : decode b_MO_inside 10 = .ok (.aload_n 0, 1) := by decide +kernel
theorem d_MO_inside_11 : decode b_MO_inside 11 = .ok (.getfield 23, 3) := by decide +kernel
theorem d_MO_inside_14 : decode b_MO_inside 14 = .ok (.iload_n 2, 1) := by decide +kernel
theorem d_MO_inside_15 : decode b_MO_inside 15 = .ok (.iaload, 1) := by decide +kernel
theorem d_MO_inside_16 : decode b_MO_inside 16 = .ok (.iload_n 1, 1) := by decide +kernel
theorem d_MO_inside_17 : decode b_MO_inside 17 = .ok (.if_icmp .ne 5, 3) := by decide +kernel
theorem d_MO_inside_20 : decode b_MO_inside 20 = .ok (.iconst 1, 1) := by decide +kernel
theorem d_MO_inside_21 : decode b_MO_inside 21 = .ok (.ireturn, 1) := by decide +kernel
theorem d_MO_inside_22 : decode b_MO_inside 22 = .ok (.iinc 2 1, 3) := by decide +kernel
theorem d_MO_inside_25 : decode b_MO_inside 25 = .ok (.goto (-23), 3) := by decide +kernel
theorem d_MO_inside_28 : decode b_MO_inside 28 = .ok (.iconst 0, 1) := by decide +kernel
theorem d_MO_inside_29 : decode b_MO_inside 29 = .ok (.ireturn, 1) := by decide +kernel
theorem d_MO_openBlock_0 : decode b_MO_openBlock 0 = .ok (.aload_n 0, 1) := by decide +kernel
theorem d_MO_openBlock_1 : decode b_MO_openBlock 1 = .ok (.getfield 23, 3) := by decide +kernel
theorem d_MO_openBlock_4 : decode b_MO_openBlock 4 = .ok (.aload_n 0, 1) := by decide +kernel
theorem d_MO_openBlock_5 : decode b_MO_openBlock 5 = .ok (.getfield 58, 3) := by decide +kernel
theorem d_MO_openBlock_8 : decode b_MO_openBlock 8 = .ok (.iload_n 1, 1) := by decide +kernel
theorem d_MO_openBlock_9 : decode b_MO_openBlock 9 = .ok (.iastore, 1) := by decide +kernel
theorem d_MO_openBlock_10 : decode b_MO_openBlock 10 = .ok (.aload_n 0, 1) := by decide +kernel
theorem d_MO_openBlock_11 : decode b_MO_openBlock 11 = .ok (.getfield 29, 3) := by decide +kernel
theorem d_MO_openBlock_14 : decode b_MO_openBlock 14 = .ok (.aload_n 0, 1) := by decide +kernel
theorem d_MO_openBlock_15 : decode b_MO_openBlock 15 = .ok (.getfield 58, 3) := by decide +kernel
theorem d_MO_openBlock_18 : decode b_MO_openBlock 18 = .ok (.iload_n 2, 1) := by decide +kernel
theorem d_MO_openBlock_19 : decode b_MO_openBlock 19 = .ok (.iastore, 1) := by decide +kernel
theorem d_MO_openBlock_20 : decode b_MO_openBlock 20 = .ok (.aload_n 0, 1) := by decide +kernel
theorem d_MO_openBlock_21 : decode b_MO_openBlock 21 = .ok (.dup, 1) := by decide +kernel
theorem d_MO_openBlock_22 : decode b_MO_openBlock 22 = .ok (.getfield 58, 3) := by decide +kernel
theorem d_MO_openBlock_25 : decode b_MO_openBlock 25 = .ok (.iconst 1, 1) := by decide +kernel
theorem d_MO_openBlock_26 : decode b_MO_openBlock 26 = .ok (.iadd, 1) := by decide +kernel
theorem d_MO_openBlock_27 : decode b_MO_openBlock 27 = .ok (.putfield 58, 3) := by decide +kernel
theorem d_MO_openBlock_30 : decode b_MO_openBlock 30 = .ok (.return_, 1) := by decide +kernel
theorem d_MO_firstWrong_0 : decode b_MO_firstWrong 0 = .ok (.aload_n 0, 1) := by decide +kernel
theorem d_MO_firstWrong_1 : decode b_MO_firstWrong 1 = .ok (.iconst 0, 1) := by decide +kernel
theorem d_MO_firstWrong_2 : decode b_MO_firstWrong 2 = .ok (.putfield 58, 3) := by decide +kernel
theorem d_MO_firstWrong_5 : decode b_MO_firstWrong 5 = .ok (.aload_n 0, 1) := by decide +kernel
theorem d_MO_firstWrong_6 : decode b_MO_firstWrong 6 = .ok (.bipush 20, 2) := by decide +kernel
theorem d_MO_firstWrong_8 : decode b_MO_firstWrong 8 = .ok (.iconst 0, 1) := by decide +kernel
theorem d_MO_firstWrong_9 : decode b_MO_firstWrong 9 = .ok (.invokevirtual 61, 3) := by decide +kernel
theorem d_MO_firstWrong_12 : decode b_MO_firstWrong 12 = .ok (.iconst 0, 1) := by decide +kernel
theorem d_MO_firstWrong_13 : decode b_MO_firstWrong 13 = .ok (.istore_n 2, 1) := by decide +kernel
theorem d_MO_firstWrong_14 : decode b_MO_firstWrong 14 = .ok (.iconst 0, 1) := by decide +kernel
theorem d_MO_firstWrong_15 : decode b_MO_firstWrong 15 = .ok (.istore_n 3, 1) := by decide +kernel
theorem d_MO_firstWrong_16 : decode b_MO_firstWrong 16 = .ok (.iconst 0, 1) := by decide +kernel
theorem d_MO_firstWrong_17 : decode b_MO_firstWrong 17 = .ok (.istore 4, 2) := by decide +kernel
theorem d_MO_firstWrong_19 : decode b_MO_firstWrong 19 = .ok (.iload 4, 2) := by decide +kernel
theorem d_MO_firstWrong_21 : decode b_MO_firstWrong 21 = .ok (.aload_n 0, 1) := by decide +kernel
theorem d_MO_firstWrong_22 : decode b_MO_firstWrong 22 = .ok (.getfield 16, 3) := by decide +kernel
theorem d_MO_firstWrong_25 : decode b_MO_firstWrong 25 = .ok (.iload_n 1, 1) := by decide +kernel
theorem d_MO_firstWrong_26 : decode b_MO_firstWrong 26 = .ok (.iaload, 1) := by decide +kernel
theorem d_MO_firstWrong_27 : decode b_MO_firstWrong 27 = .ok (.if_icmp .ge 277, 3) := by decide +kernel
theorem d_MO_firstWrong_30 : decode b_MO_firstWrong 30 = .ok (.aload_n 0, 1) := by decide +kernel
theorem d_MO_firstWrong_31 : decode b_MO_firstWrong 31 = .ok (.getfield 7, 3) := by decide +kernel
theorem d_MO_firstWrong_34 : decode b_MO_firstWrong 34 = .ok (.bipush 32, 2) := by decide +kernel
theorem d_MO_firstWrong_36 : decode b_MO_firstWrong 36 = .ok (.iload_n 1, 1) := by decide +kernel
theorem d_MO_firstWrong_37 : decode b_MO_firstWrong 37 = .ok (.imul, 1) := by decide +kernel
theorem d_MO_firstWrong_38 : decode b_MO_firstWrong 38 = .ok (.iload 4, 2) := by decide +kernel
theorem d_MO_firstWrong_40 : decode b_MO_firstWrong 40 = .ok (.iadd, 1) := by decide +kernel
theorem d_MO_firstWrong_41 : decode b_MO_firstWrong 41 = .ok (.iaload, 1) := by decide +kernel
theorem d_MO_firstWrong_42 : decode b_MO_firstWrong 42 = .ok (.istore 5, 2) := by decide +kernel
theorem d_MO_firstWrong_44 : decode b_MO_firstWrong 44 = .ok (.aload_n 0, 1) := by decide +kernel
theorem d_MO_firstWrong_45 : decode b_MO_firstWrong 45 = .ok (.getfield 13, 3) := by decide +kernel
theorem d_MO_firstWrong_48 : decode b_MO_firstWrong 48 = .ok (.bipush 32, 2) := by decide +kernel
theorem d_MO_firstWrong_50 : decode b_MO_firstWrong 50 = .ok (.iload_n 1, 1) := by decide +kernel
theorem d_MO_firstWrong_51 : decode b_MO_firstWrong 51 = .ok (.imul, 1) := by decide +kernel
theorem d_MO_firstWrong_52 : decode b_MO_firstWrong 52 = .ok (.iload 4, 2) := by decide +kernel
theorem d_MO_firstWrong_54 : decode b_MO_firstWrong 54 = .ok (.iadd, 1) := by decide +kernel
theorem d_MO_firstWrong_55 : decode b_MO_firstWrong 55 = .ok (.iaload, 1) := by decide +kernel
theorem d_MO_firstWrong_56 : decode b_MO_firstWrong 56 = .ok (.istore 6, 2) := by decide +kernel
theorem d_MO_firstWrong_58 : decode b_MO_firstWrong 58 = .ok (.aload_n 0, 1) := by decide +kernel
theorem d_MO_firstWrong_59 : decode b_MO_firstWrong 59 = .ok (.getfield 58, 3) := by decide +kernel
theorem d_MO_firstWrong_62 : decode b_MO_firstWrong 62 = .ok (.ifCond .ne 6, 3) := by decide +kernel
theorem d_MO_firstWrong_65 : decode b_MO_firstWrong 65 = .ok (.iload 4, 2) := by decide +kernel
theorem d_MO_firstWrong_67 : decode b_MO_firstWrong 67 = .ok (.ireturn, 1) := by decide +kernel
theorem d_MO_firstWrong_68 : decode b_MO_firstWrong 68 = .ok (.iload_n 2, 1) := by decide +kernel
theorem d_MO_firstWrong_69 : decode b_MO_firstWrong 69 = .ok (.ifCond .eq 37, 3) := by decide +kernel
theorem d_MO_firstWrong_72 : decode b_MO_firstWrong 72 = .ok (.iload 5, 2) := by decide +kernel
theorem d_MO_firstWrong_74 : decode b_MO_firstWrong 74 = .ok (.iload_n 2, 1) := by decide +kernel
theorem d_MO_firstWrong_75 : decode b_MO_firstWrong 75 = .ok (.if_icmp .eq 6, 3) := by decide +kernel
theorem d_MO_firstWrong_78 : decode b_MO_firstWrong 78 = .ok (.iload 4, 2) := by decide +kernel
theorem d_MO_firstWrong_80 : decode b_MO_firstWrong 80 = .ok (.ireturn, 1) := by decide +kernel
theorem d_MO_firstWrong_81 : decode b_MO_firstWrong 81 = .ok (.aload_n 0, 1) := by decide +kernel
theorem d_MO_firstWrong_82 : decode b_MO_firstWrong 82 = .ok (.iload 5, 2) := by decide +kernel
theorem d_MO_firstWrong_84 : decode b_MO_firstWrong 84 = .ok (.iload 5, 2) := by decide +kernel
theorem d_MO_firstWrong_86 : decode b_MO_firstWrong 86 = .ok (.bipush 16, 2) := by decide +kernel
theorem d_MO_firstWrong_88 : decode b_MO_firstWrong 88 = .ok (.if_icmp .ne 9, 3) := by decide +kernel
theorem d_MO_firstWrong_91 : decode b_MO_firstWrong 91 = .ok (.iload_n 3, 1) := by decide +kernel
theorem d_MO_firstWrong_92 : decode b_MO_firstWrong 92 = .ok (.iconst 1, 1) := by decide +kernel
theorem d_MO_firstWrong_93 : decode b_MO_firstWrong 93 = .ok (.isub, 1) := by decide +kernel
theorem d_MO_firstWrong_94 : decode b_MO_firstWrong 94 = .ok (.goto 4, 3) := by decide +kernel
theorem d_MO_firstWrong_97 : decode b_MO_firstWrong 97 = .ok (.iconst 0, 1) := by decide +kernel
theorem d_MO_firstWrong_98 : decode b_MO_firstWrong 98 = .ok (.invokevirtual 61, 3) := by decide +kernel
theorem d_MO_firstWrong_101 : decode b_MO_firstWrong 101 = .ok (.iconst 0, 1) := by decide +kernel
theorem d_MO_firstWrong_102 : decode b_MO_firstWrong 102 = .ok (.istore_n 2, 1) := by decide +kernel
theorem d_MO_firstWrong_103 : decode b_MO_firstWrong 103 = .ok (.goto 195, 3) := by decide +kernel
theorem d_MO_firstWrong_106 : decode b_MO_firstWrong 106 = .ok (.iload 5, 2) := by decide +kernel
theorem d_MO_firstWrong_108 : decode b_MO_firstWrong 108 = .ok (.bipush 18, 2) := by decide +kernel
theorem d_MO_firstWrong_110 : decode b_MO_firstWrong 110 = .ok (.if_icmp .ne 91, 3) := by decide +kernel
theorem d_MO_firstWrong_113 : decode b_MO_firstWrong 113 = .ok (.aload_n 0, 1) := by decide +kernel
theorem d_MO_firstWrong_114 : decode b_MO_firstWrong 114 = .ok (.dup, 1) := by decide +kernel
theorem d_MO_firstWrong_115 : decode b_MO_firstWrong 115 = .ok (.getfield 58, 3) := by decide +kernel
theorem d_MO_firstWrong_118 : decode b_MO_firstWrong 118 = .ok (.iconst 1, 1) := by decide +kernel
theorem d_MO_firstWrong_119 : decode b_MO_firstWrong 119 = .ok (.isub, 1) := by decide +kernel
theorem d_MO_firstWrong_120 : decode b_MO_firstWrong 120 = .ok (.putfield 58, 3) := by decide +kernel
theorem d_MO_firstWrong_123 : decode b_MO_firstWrong 123 = .ok (.aload_n 0, 1) := by decide +kernel
theorem d_MO_firstWrong_124 : decode b_MO_firstWrong 124 = .ok (.getfield 29, 3) := by decide +kernel
theorem d_MO_firstWrong_127 : decode b_MO_firstWrong 127 = .ok (.aload_n 0, 1) := by decide +kernel
theorem d_MO_firstWrong_128 : decode b_MO_firstWrong 128 = .ok (.getfield 58, 3) := by decide +kernel
theorem d_MO_firstWrong_131 : decode b_MO_firstWrong 131 = .ok (.iaload, 1) := by decide +kernel
theorem d_MO_firstWrong_132 : decode b_MO_firstWrong 132 = .ok (.istore_n 3, 1) := by decide +kernel
theorem d_MO_firstWrong_133 : decode b_MO_firstWrong 133 = .ok (.aload_n 0, 1) := by decide +kernel
theorem d_MO_firstWrong_134 : decode b_MO_firstWrong 134 = .ok (.getfield 23, 3) := by decide +kernel
theorem d_MO_firstWrong_137 : decode b_MO_firstWrong 137 = .ok (.aload_n 0, 1) := by decide +kernel
theorem d_MO_firstWrong_138 : decode b_MO_firstWrong 138 = .ok (.getfield 58, 3) := by decide +kernel
theorem d_MO_firstWrong_141 : decode b_MO_firstWrong 141 = .ok (.iaload, 1) := by decide +kernel
theorem d_MO_firstWrong_142 : decode b_MO_firstWrong 142 = .ok (.bipush 9, 2) := by decide +kernel
theorem d_MO_firstWrong_144 : decode b_MO_firstWrong 144 = .ok (.if_icmp .eq 17, 3) := by decide +kernel
theorem d_MO_firstWrong_147 : decode b_MO_firstWrong 147 = .ok (.aload_n 0, 1) := by decide +kernel
theorem d_MO_firstWrong_148 : decode b_MO_firstWrong 148 = .ok (.getfield 23, 3) := by decide +kernel
theorem d_MO_firstWrong_151 : decode b_MO_firstWrong 151 = .ok (.aload_n 0, 1) := by decide +kernel
theorem d_MO_firstWrong_152 : decode b_MO_firstWrong 152 = .ok (.getfield 58, 3) := by decide +kernel
theorem d_MO_firstWrong_155 : decode b_MO_firstWrong 155 = .ok (.iaload, 1) := by decide +kernel
theorem d_MO_firstWrong_156 : decode b_MO_firstWrong 156 = .ok (.bipush 16, 2) := by decide +kernel
theorem d_MO_firstWrong_158 : decode b_MO_firstWrong 158 = .ok (.if_icmp .ne 7, 3) := by decide +kernel
theorem d_MO_firstWrong_161 : decode b_MO_firstWrong 161 = .ok (.iconst 1, 1) := by decide +kernel
theorem d_MO_firstWrong_162 : decode b_MO_firstWrong 162 = .ok (.goto 4, 3) := by decide +kernel
theorem d_MO_firstWrong_165 : decode b_MO_firstWrong 165 = .ok (.iconst 0, 1) := by decide +kernel
theorem d_MO_firstWrong_166 : decode b_MO_firstWrong 166 = .ok (.istore 7, 2) := by decide +kernel
theorem d_MO_firstWrong_168 : decode b_MO_firstWrong 168 = .ok (.iload 7, 2) := by decide +kernel
theorem d_MO_firstWrong_170 : decode b_MO_firstWrong 170 = .ok (.ifCond .eq 15, 3) := by decide +kernel
theorem d_MO_firstWrong_173 : decode b_MO_firstWrong 173 = .ok (.iload_n 3, 1) := by decide +kernel
theorem d_MO_firstWrong_174 : decode b_MO_firstWrong 174 = .ok (.iconst 3, 1) := by decide +kernel
theorem d_MO_firstWrong_175 : decode b_MO_firstWrong 175 = .ok (.iand, 1) := by decide +kernel
theorem d_MO_firstWrong_176 : decode b_MO_firstWrong 176 = .ok (.ifCond .le 9, 3) := by decide +kernel
theorem d_MO_firstWrong_179 : decode b_MO_firstWrong 179 = .ok (.bipush 16, 2) := by decide +kernel
theorem d_MO_firstWrong_181 : decode b_MO_firstWrong 181 = .ok (.istore_n 2, 1) := by decide +kernel
theorem d_MO_firstWrong_182 : decode b_MO_firstWrong 182 = .ok (.goto 16, 3) := by decide +kernel
theorem d_MO_firstWrong_185 : decode b_MO_firstWrong 185 = .ok (.iload 7, 2) := by decide +kernel
theorem d_MO_firstWrong_187 : decode b_MO_firstWrong 187 = .ok (.ifCond .eq 11, 3) := by decide +kernel
theorem d_MO_firstWrong_190 : decode b_MO_firstWrong 190 = .ok (.iload_n 3, 1) := by decide +kernel
theorem d_MO_firstWrong_191 : decode b_MO_firstWrong 191 = .ok (.iconst 4, 1) := by decide +kernel
theorem d_MO_firstWrong_192 : decode b_MO_firstWrong 192 = .ok (.if_icmp .lt 6, 3) := by decide +kernel
theorem d_MO_firstWrong_195 : decode b_MO_firstWrong 195 = .ok (.bipush 17, 2) := by decide +kernel
theorem d_MO_firstWrong_197 : decode b_MO_firstWrong 197 = .ok (.istore_n 2, 1) := by decide +kernel
theorem d_MO_firstWrong_198 : decode b_MO_firstWrong 198 = .ok (.goto 100, 3) := by decide +kernel
theorem d_MO_firstWrong_201 : decode b_MO_firstWrong 201 = .ok (.iload 5, 2) := by decide +kernel
theorem d_MO_firstWrong_203 : decode b_MO_firstWrong 203 = .ok (.bipush 16, 2) := by decide +kernel
theorem d_MO_firstWrong_205 : decode b_MO_firstWrong 205 = .ok (.if_icmp .eq 63, 3) := by decide +kernel
theorem d_MO_firstWrong_208 : decode b_MO_firstWrong 208 = .ok (.iload 5, 2) := by decide +kernel
theorem d_MO_firstWrong_210 : decode b_MO_firstWrong 210 = .ok (.bipush 17, 2) := by decide +kernel
theorem d_MO_firstWrong_212 : decode b_MO_firstWrong 212 = .ok (.if_icmp .eq 56, 3) := by decide +kernel
theorem d_MO_firstWrong_215 : decode b_MO_firstWrong 215 = .ok (.iload 5, 2) := by decide +kernel
theorem d_MO_firstWrong_217 : decode b_MO_firstWrong 217 = .ok (.iconst 4, 1) := by decide +kernel
theorem d_MO_firstWrong_218 : decode b_MO_firstWrong 218 = .ok (.if_icmp .eq 9, 3) := by decide +kernel
theorem d_MO_firstWrong_221 : decode b_MO_firstWrong 221 = .ok (.iload 5, 2) := by decide +kernel
theorem d_MO_firstWrong_223 : decode b_MO_firstWrong 223 = .ok (.iconst 5, 1) := by decide +kernel
theorem d_MO_firstWrong_224 : decode b_MO_firstWrong 224 = .ok (.if_icmp .ne 11, 3) := by decide +kernel
theorem d_MO_firstWrong_227 : decode b_MO_firstWrong 227 = .ok (.aload_n 0, 1) := by decide +kernel
theorem d_MO_firstWrong_228 : decode b_MO_firstWrong 228 = .ok (.iconst 3, 1) := by decide +kernel
theorem d_MO_firstWrong_229 : decode b_MO_firstWrong 229 = .ok (.invokevirtual 65, 3) := by decide +kernel
theorem d_MO_firstWrong_232 : decode b_MO_firstWrong 232 = .ok (.ifCond .eq 36, 3) := by decide +kernel
theorem d_MO_firstWrong_235 : decode b_MO_firstWrong 235 = .ok (.iload 5, 2) := by decide +kernel
theorem d_MO_firstWrong_237 : decode b_MO_firstWrong 237 = .ok (.bipush 8, 2) := by decide +kernel
theorem d_MO_firstWrong_239 : decode b_MO_firstWrong 239 = .ok (.if_icmp .ne 12, 3) := by decide +kernel
theorem d_MO_firstWrong_242 : decode b_MO_firstWrong 242 = .ok (.aload_n 0, 1) := by decide +kernel
theorem d_MO_firstWrong_243 : decode b_MO_firstWrong 243 = .ok (.bipush 16, 2) := by decide +kernel
theorem d_MO_firstWrong_245 : decode b_MO_firstWrong 245 = .ok (.invokevirtual 65, 3) := by decide +kernel
theorem d_MO_firstWrong_248 : decode b_MO_firstWrong 248 = .ok (.ifCond .eq 20, 3) := by decide +kernel
theorem d_MO_firstWrong_251 : decode b_MO_firstWrong 251 = .ok (.iload 5, 2) := by decide +kernel
theorem d_MO_firstWrong_253 : decode b_MO_firstWrong 253 = .ok (.invokestatic 69, 3) := by decide +kernel
theorem d_MO_firstWrong_256 : decode b_MO_firstWrong 256 = .ok (.ifCond .eq 15, 3) := by decide +kernel
theorem d_MO_firstWrong_259 : decode b_MO_firstWrong 259 = .ok (.aload_n 0, 1) := by decide +kernel
theorem d_MO_firstWrong_260 : decode b_MO_firstWrong 260 = .ok (.getfield 58, 3) := by decide +kernel
theorem d_MO_firstWrong_263 : decode b_MO_firstWrong 263 = .ok (.bipush 6, 2) := by decide +kernel
theorem d_MO_firstWrong_265 : decode b_MO_firstWrong 265 = .ok (.if_icmp .ne 6, 3) := by decide +kernel
theorem d_MO_firstWrong_268 : decode b_MO_firstWrong 268 = .ok (.iload 4, 2) := by decide +kernel
theorem d_MO_firstWrong_270 : decode b_MO_firstWrong 270 = .ok (.ireturn, 1) := by decide +kernel
theorem d_MO_firstWrong_271 : decode b_MO_firstWrong 271 = .ok (.iload 5, 2) := by decide +kernel
theorem d_MO_firstWrong_273 : decode b_MO_firstWrong 273 = .ok (.invokestatic 69, 3) := by decide +kernel
theorem d_MO_firstWrong_276 : decode b_MO_firstWrong 276 = .ok (.ifCond .eq 22, 3) := by decide +kernel
theorem d_MO_firstWrong_279 : decode b_MO_firstWrong 279 = .ok (.aload_n 0, 1) := by decide +kernel
theorem d_MO_firstWrong_280 : decode b_MO_firstWrong 280 = .ok (.iload 5, 2) := by decide +kernel
theorem d_MO_firstWrong_282 : decode b_MO_firstWrong 282 = .ok (.iload 5, 2) := by decide +kernel
theorem d_MO_firstWrong_284 : decode b_MO_firstWrong 284 = .ok (.bipush 9, 2) := by decide +kernel
theorem d_MO_firstWrong_286 : decode b_MO_firstWrong 286 = .ok (.if_icmp .ne 8, 3) := by decide +kernel
theorem d_MO_firstWrong_289 : decode b_MO_firstWrong 289 = .ok (.iload 6, 2) := by decide +kernel
theorem d_MO_firstWrong_291 : decode b_MO_firstWrong 291 = .ok (.goto 4, 3) := by decide +kernel
theorem d_MO_firstWrong_294 : decode b_MO_firstWrong 294 = .ok (.iconst 0, 1) := by decide +kernel
theorem d_MO_firstWrong_295 : decode b_MO_firstWrong 295 = .ok (.invokevirtual 61, 3) := by decide +kernel
theorem d_MO_firstWrong_298 : decode b_MO_firstWrong 298 = .ok (.iinc 4 1, 3) := by decide +kernel
theorem d_MO_firstWrong_301 : decode b_MO_firstWrong 301 = .ok (.goto (-282), 3) := by decide +kernel
theorem d_MO_firstWrong_304 : decode b_MO_firstWrong 304 = .ok (.aload_n 0, 1) := by decide +kernel
theorem d_MO_firstWrong_305 : decode b_MO_firstWrong 305 = .ok (.getfield 58, 3) := by decide +kernel
theorem d_MO_firstWrong_308 : decode b_MO_firstWrong 308 = .ok (.ifCond .ne 11, 3) := by decide +kernel
theorem d_MO_firstWrong_311 : decode b_MO_firstWrong 311 = .ok (.iload_n 2, 1) := by decide +kernel
theorem d_MO_firstWrong_312 : decode b_MO_firstWrong 312 = .ok (.ifCond .ne 7, 3) := by decide +kernel
theorem d_MO_firstWrong_315 : decode b_MO_firstWrong 315 = .ok (.iconst (-1), 1) := by decide +kernel
theorem d_MO_firstWrong_316 : decode b_MO_firstWrong 316 = .ok (.goto 9, 3) := by decide +kernel
theorem d_MO_firstWrong_319 : decode b_MO_firstWrong 319 = .ok (.aload_n 0, 1) := by decide +kernel
theorem d_MO_firstWrong_320 : decode b_MO_firstWrong 320 = .ok (.getfield 16, 3) := by decide +kernel
theorem d_MO_firstWrong_323 : decode b_MO_firstWrong 323 = .ok (.iload_n 1, 1) := by decide +kernel
theorem d_MO_firstWrong_324 : decode b_MO_firstWrong 324 = .ok (.iaload, 1) := by decide +kernel
theorem d_MO_firstWrong_325 : decode b_MO_firstWrong 325 = .ok (.ireturn, 1) := by decide +kernel
theorem d_MO_good_0 : decode b_MO_good 0 = .ok (.aload_n 0, 1) := by decide +kernel
theorem d_MO_good_1 : decode b_MO_good 1 = .ok (.iload_n 1, 1) := by decide +kernel
theorem d_MO_good_2 : decode b_MO_good 2 = .ok (.invokevirtual 72, 3) := by decide +kernel
theorem d_MO_good_5 : decode b_MO_good 5 = .ok (.istore_n 2, 1) := by decide +kernel
theorem d_MO_good_6 : decode b_MO_good 6 = .ok (.iload_n 2, 1) := by decide +kernel
theorem d_MO_good_7 : decode b_MO_good 7 = .ok (.ifCond .ge 5, 3) := by decide +kernel
theorem d_MO_good_10 : decode b_MO_good 10 = .ok (.iconst 1, 1) := by decide +kernel
theorem d_MO_good_11 : decode b_MO_good 11 = .ok (.ireturn, 1) := by decide +kernel
theorem d_MO_good_12 : decode b_MO_good 12 = .ok (.aload_n 0, 1) := by decide +kernel
theorem d_MO_good_13 : decode b_MO_good 13 = .ok (.bipush 32, 2) := by decide +kernel
theorem d_MO_good_15 : decode b_MO_good 15 = .ok (.iload_n 1, 1) := by decide +kernel
theorem d_MO_good_16 : decode b_MO_good 16 = .ok (.imul, 1) := by decide +kernel
theorem d_MO_good_17 : decode b_MO_good 17 = .ok (.iload_n 2, 1) := by decide +kernel
theorem d_MO_good_18 : decode b_MO_good 18 = .ok (.iadd, 1) := by decide +kernel
theorem d_MO_good_19 : decode b_MO_good 19 = .ok (.putfield 19, 3) := by decide +kernel
theorem d_MO_good_22 : decode b_MO_good 22 = .ok (.iconst 0, 1) := by decide +kernel
theorem d_MO_good_23 : decode b_MO_good 23 = .ok (.ireturn, 1) := by decide +kernel
theorem d_MO_check_0 : decode b_MO_check 0 = .ok (.iload_n 1, 1) := by decide +kernel
theorem d_MO_check_1 : decode b_MO_check 1 = .ok (.iconst 0, 1) := by decide +kernel
theorem d_MO_check_2 : decode b_MO_check 2 = .ok (.iconst 3, 1) := by decide +kernel
theorem d_MO_check_3 : decode b_MO_check 3 = .ok (.invokestatic 50, 3) := by decide +kernel
theorem d_MO_check_6 : decode b_MO_check 6 = .ok (.ifCond .ne 5, 3) := by decide +kernel
theorem d_MO_check_9 : decode b_MO_check 9 = .ok (.iconst (-1), 1) := by decide +kernel
theorem d_MO_check_10 : decode b_MO_check 10 = .ok (.ireturn, 1) := by decide +kernel
theorem d_MO_check_11 : decode b_MO_check 11 = .ok (.aload_n 0, 1) := by decide +kernel
theorem d_MO_check_12 : decode b_MO_check 12 = .ok (.iconst (-1), 1) := by decide +kernel
theorem d_MO_check_13 : decode b_MO_check 13 = .ok (.putfield 19, 3) := by decide +kernel
theorem d_MO_check_16 : decode b_MO_check 16 = .ok (.aload_n 0, 1) := by decide +kernel
theorem d_MO_check_17 : decode b_MO_check 17 = .ok (.iload_n 1, 1) := by decide +kernel
theorem d_MO_check_18 : decode b_MO_check 18 = .ok (.invokevirtual 76, 3) := by decide +kernel
theorem d_MO_check_21 : decode b_MO_check 21 = .ok (.ifCond .eq 7, 3) := by decide +kernel
theorem d_MO_check_24 : decode b_MO_check 24 = .ok (.iconst 0, 1) := by decide +kernel
theorem d_MO_check_25 : decode b_MO_check 25 = .ok (.goto 5, 3) := by decide +kernel
theorem d_MO_check_28 : decode b_MO_check 28 = .ok (.bipush (-3), 2) := by decide +kernel
theorem d_MO_check_30 : decode b_MO_check 30 = .ok (.ireturn, 1) := by decide +kernel
theorem d_MO_place_0 : decode b_MO_place 0 = .ok (.aload_n 0, 1) := by decide +kernel
theorem d_MO_place_1 : decode b_MO_place 1 = .ok (.getfield 19, 3) := by decide +kernel
theorem d_MO_place_4 : decode b_MO_place 4 = .ok (.ireturn, 1) := by decide +kernel
theorem d_MO_behind_0 : decode b_MO_behind 0 = .ok (.iconst 1, 1) := by decide +kernel
theorem d_MO_behind_1 : decode b_MO_behind 1 = .ok (.istore_n 2, 1) := by decide +kernel
theorem d_MO_behind_2 : decode b_MO_behind 2 = .ok (.iload_n 1, 1) := by decide +kernel
theorem d_MO_behind_3 : decode b_MO_behind 3 = .ok (.istore_n 3, 1) := by decide +kernel
theorem d_MO_behind_4 : decode b_MO_behind 4 = .ok (.iload_n 2, 1) := by decide +kernel
theorem d_MO_behind_5 : decode b_MO_behind 5 = .ok (.ifCond .le 38, 3) := by decide +kernel
theorem d_MO_behind_8 : decode b_MO_behind 8 = .ok (.aload_n 0, 1) := by decide +kernel
theorem d_MO_behind_9 : decode b_MO_behind 9 = .ok (.getfield 7, 3) := by decide +kernel
theorem d_MO_behind_12 : decode b_MO_behind 12 = .ok (.iload_n 3, 1) := by decide +kernel
theorem d_MO_behind_13 : decode b_MO_behind 13 = .ok (.iaload, 1) := by decide +kernel
theorem d_MO_behind_14 : decode b_MO_behind 14 = .ok (.invokestatic 69, 3) := by decide +kernel
theorem d_MO_behind_17 : decode b_MO_behind 17 = .ok (.ifCond .eq 6, 3) := by decide +kernel
theorem d_MO_behind_20 : decode b_MO_behind 20 = .ok (.iinc 2 1, 3) := by decide +kernel
theorem d_MO_behind_23 : decode b_MO_behind 23 = .ok (.aload_n 0, 1) := by decide +kernel
theorem d_MO_behind_24 : decode b_MO_behind 24 = .ok (.getfield 7, 3) := by decide +kernel
theorem d_MO_behind_27 : decode b_MO_behind 27 = .ok (.iload_n 3, 1) := by decide +kernel
theorem d_MO_behind_28 : decode b_MO_behind 28 = .ok (.iaload, 1) := by decide +kernel
theorem d_MO_behind_29 : decode b_MO_behind 29 = .ok (.bipush 18, 2) := by decide +kernel
theorem d_MO_behind_31 : decode b_MO_behind 31 = .ok (.if_icmp .ne 6, 3) := by decide +kernel
theorem d_MO_behind_34 : decode b_MO_behind 34 = .ok (.iinc 2 (-1), 3) := by decide +kernel
theorem d_MO_behind_37 : decode b_MO_behind 37 = .ok (.iinc 3 1, 3) := by decide +kernel
theorem d_MO_behind_40 : decode b_MO_behind 40 = .ok (.goto (-36), 3) := by decide +kernel
theorem d_MO_behind_43 : decode b_MO_behind 43 = .ok (.iload_n 3, 1) := by decide +kernel
theorem d_MO_behind_44 : decode b_MO_behind 44 = .ok (.ireturn, 1) := by decide +kernel
theorem d_MO_part_0 : decode b_MO_part 0 = .ok (.aload_n 0, 1) := by decide +kernel
theorem d_MO_part_1 : decode b_MO_part 1 = .ok (.iload_n 1, 1) := by decide +kernel
theorem d_MO_part_2 : decode b_MO_part 2 = .ok (.iconst 1, 1) := by decide +kernel
theorem d_MO_part_3 : decode b_MO_part 3 = .ok (.iadd, 1) := by decide +kernel
theorem d_MO_part_4 : decode b_MO_part 4 = .ok (.invokevirtual 79, 3) := by decide +kernel
theorem d_MO_part_7 : decode b_MO_part 7 = .ok (.istore_n 3, 1) := by decide +kernel
theorem d_MO_part_8 : decode b_MO_part 8 = .ok (.iconst 0, 1) := by decide +kernel
theorem d_MO_part_9 : decode b_MO_part 9 = .ok (.istore 4, 2) := by decide +kernel
theorem d_MO_part_11 : decode b_MO_part 11 = .ok (.iload 4, 2) := by decide +kernel
theorem d_MO_part_13 : decode b_MO_part 13 = .ok (.iload_n 2, 1) := by decide +kernel
theorem d_MO_part_14 : decode b_MO_part 14 = .ok (.if_icmp .ge 17, 3) := by decide +kernel
theorem d_MO_part_17 : decode b_MO_part 17 = .ok (.aload_n 0, 1) := by decide +kernel
theorem d_MO_part_18 : decode b_MO_part 18 = .ok (.iload_n 3, 1) := by decide +kernel
theorem d_MO_part_19 : decode b_MO_part 19 = .ok (.iconst 1, 1) := by decide +kernel
theorem d_MO_part_20 : decode b_MO_part 20 = .ok (.iadd, 1) := by decide +kernel
theorem d_MO_part_21 : decode b_MO_part 21 = .ok (.invokevirtual 79, 3) := by decide +kernel
theorem d_MO_part_24 : decode b_MO_part 24 = .ok (.istore_n 3, 1) := by decide +kernel
theorem d_MO_part_25 : decode b_MO_part 25 = .ok (.iinc 4 1, 3) := by decide +kernel
theorem d_MO_part_28 : decode b_MO_part 28 = .ok (.goto (-17), 3) := by decide +kernel
theorem d_MO_part_31 : decode b_MO_part 31 = .ok (.iload_n 3, 1) := by decide +kernel
theorem d_MO_part_32 : decode b_MO_part 32 = .ok (.ireturn, 1) := by decide +kernel
theorem d_MO_behindTry_0 : decode b_MO_behindTry 0 = .ok (.aload_n 0, 1) := by decide +kernel
theorem d_MO_behindTry_1 : decode b_MO_behindTry 1 = .ok (.iload_n 1, 1) := by decide +kernel
theorem d_MO_behindTry_2 : decode b_MO_behindTry 2 = .ok (.aload_n 0, 1) := by decide +kernel
theorem d_MO_behindTry_3 : decode b_MO_behindTry 3 = .ok (.getfield 13, 3) := by decide +kernel
theorem d_MO_behindTry_6 : decode b_MO_behindTry 6 = .ok (.iload_n 1, 1) := by decide +kernel
theorem d_MO_behindTry_7 : decode b_MO_behindTry 7 = .ok (.iaload, 1) := by decide +kernel
theorem d_MO_behindTry_8 : decode b_MO_behindTry 8 = .ok (.iconst 3, 1) := by decide +kernel
theorem d_MO_behindTry_9 : decode b_MO_behindTry 9 = .ok (.iand, 1) := by decide +kernel
theorem d_MO_behindTry_10 : decode b_MO_behindTry 10 = .ok (.invokevirtual 82, 3) := by decide +kernel
theorem d_MO_behindTry_13 : decode b_MO_behindTry 13 = .ok (.istore_n 2, 1) := by decide +kernel
theorem d_MO_behindTry_14 : decode b_MO_behindTry 14 = .ok (.aload_n 0, 1) := by decide +kernel
theorem d_MO_behindTry_15 : decode b_MO_behindTry 15 = .ok (.getfield 13, 3) := by decide +kernel
theorem d_MO_behindTry_18 : decode b_MO_behindTry 18 = .ok (.iload_n 1, 1) := by decide +kernel
theorem d_MO_behindTry_19 : decode b_MO_behindTry 19 = .ok (.iaload, 1) := by decide +kernel
theorem d_MO_behindTry_20 : decode b_MO_behindTry 20 = .ok (.iconst 4, 1) := by decide +kernel
theorem d_MO_behindTry_21 : decode b_MO_behindTry 21 = .ok (.if_icmp .lt 13, 3) := by decide +kernel
theorem d_MO_behindTry_24 : decode b_MO_behindTry 24 = .ok (.aload_n 0, 1) := by decide +kernel
theorem d_MO_behindTry_25 : decode b_MO_behindTry 25 = .ok (.iload_n 2, 1) := by decide +kernel
theorem d_MO_behindTry_26 : decode b_MO_behindTry 26 = .ok (.iconst 1, 1) := by decide +kernel
theorem d_MO_behindTry_27 : decode b_MO_behindTry 27 = .ok (.iadd, 1) := by decide +kernel
theorem d_MO_behindTry_28 : decode b_MO_behindTry 28 = .ok (.invokevirtual 79, 3) := by decide +kernel
theorem d_MO_behindTry_31 : decode b_MO_behindTry 31 = .ok (.goto 4, 3) := by decide +kernel
theorem d_MO_behindTry_34 : decode b_MO_behindTry 34 = .ok (.iload_n 2, 1) := by decide +kernel
theorem d_MO_behindTry_35 : decode b_MO_behindTry 35 = .ok (.ireturn, 1) := by decide +kernel
theorem d_MO_enter_0 : decode b_MO_enter 0 = .ok (.aload_n 0, 1) := by decide +kernel
theorem d_MO_enter_1 : decode b_MO_enter 1 = .ok (.getfield 23, 3) := by decide +kernel
theorem d_MO_enter_4 : decode b_MO_enter 4 = .ok (.aload_n 0, 1) := by decide +kernel
theorem d_MO_enter_5 : decode b_MO_enter 5 = .ok (.getfield 58, 3) := by decide +kernel
theorem d_MO_enter_8 : decode b_MO_enter 8 = .ok (.iload_n 1, 1) := by decide +kernel
theorem d_MO_enter_9 : decode b_MO_enter 9 = .ok (.iastore, 1) := by decide +kernel
theorem d_MO_enter_10 : decode b_MO_enter 10 = .ok (.aload_n 0, 1) := by decide +kernel
theorem d_MO_enter_11 : decode b_MO_enter 11 = .ok (.getfield 26, 3) := by decide +kernel
theorem d_MO_enter_14 : decode b_MO_enter 14 = .ok (.aload_n 0, 1) := by decide +kernel
theorem d_MO_enter_15 : decode b_MO_enter 15 = .ok (.getfield 58, 3) := by decide +kernel
theorem d_MO_enter_18 : decode b_MO_enter 18 = .ok (.iload_n 2, 1) := by decide +kernel
theorem d_MO_enter_19 : decode b_MO_enter 19 = .ok (.iastore, 1) := by decide +kernel
theorem d_MO_enter_20 : decode b_MO_enter 20 = .ok (.aload_n 0, 1) := by decide +kernel
theorem d_MO_enter_21 : decode b_MO_enter 21 = .ok (.getfield 29, 3) := by decide +kernel
theorem d_MO_enter_24 : decode b_MO_enter 24 = .ok (.aload_n 0, 1) := by decide +kernel
theorem d_MO_enter_25 : decode b_MO_enter 25 = .ok (.getfield 58, 3) := by decide +kernel
theorem d_MO_enter_28 : decode b_MO_enter 28 = .ok (.iload_n 3, 1) := by decide +kernel
theorem d_MO_enter_29 : decode b_MO_enter 29 = .ok (.iastore, 1) := by decide +kernel
theorem d_MO_enter_30 : decode b_MO_enter 30 = .ok (.aload_n 0, 1) := by decide +kernel
theorem d_MO_enter_31 : decode b_MO_enter 31 = .ok (.getfield 32, 3) := by decide +kernel
theorem d_MO_enter_34 : decode b_MO_enter 34 = .ok (.aload_n 0, 1) := by decide +kernel
theorem d_MO_enter_35 : decode b_MO_enter 35 = .ok (.getfield 58, 3) := by decide +kernel
theorem d_MO_enter_38 : decode b_MO_enter 38 = .ok (.iconst 0, 1) := by decide +kernel
theorem d_MO_enter_39 : decode b_MO_enter 39 = .ok (.iastore, 1) := by decide +kernel
theorem d_MO_enter_40 : decode b_MO_enter 40 = .ok (.aload_n 0, 1) := by decide +kernel
theorem d_MO_enter_41 : decode b_MO_enter 41 = .ok (.dup, 1) := by decide +kernel
theorem d_MO_enter_42 : decode b_MO_enter 42 = .ok (.getfield 58, 3) := by decide +kernel
theorem d_MO_enter_45 : decode b_MO_enter 45 = .ok (.iconst 1, 1) := by decide +kernel
theorem d_MO_enter_46 : decode b_MO_enter 46 = .ok (.iadd, 1) := by decide +kernel
theorem d_MO_enter_47 : decode b_MO_enter 47 = .ok (.putfield 58, 3) := by decide +kernel
theorem d_MO_enter_50 : decode b_MO_enter 50 = .ok (.aload_n 0, 1) := by decide +kernel
theorem d_MO_enter_51 : decode b_MO_enter 51 = .ok (.iload_n 2, 1) := by decide +kernel
theorem d_MO_enter_52 : decode b_MO_enter 52 = .ok (.iconst 1, 1) := by decide +kernel
theorem d_MO_enter_53 : decode b_MO_enter 53 = .ok (.iadd, 1) := by decide +kernel
theorem d_MO_enter_54 : decode b_MO_enter 54 = .ok (.putfield 86, 3) := by decide +kernel
theorem d_MO_enter_57 : decode b_MO_enter 57 = .ok (.return_, 1) := by decide +kernel
theorem d_MO_made_0 : decode b_MO_made 0 = .ok (.aload_n 0, 1) := by decide +kernel
theorem d_MO_made_1 : decode b_MO_made 1 = .ok (.dup, 1) := by decide +kernel
theorem d_MO_made_2 : decode b_MO_made 2 = .ok (.getfield 89, 3) := by decide +kernel
theorem d_MO_made_5 : decode b_MO_made 5 = .ok (.iconst 1, 1) := by decide +kernel
theorem d_MO_made_6 : decode b_MO_made 6 = .ok (.iadd, 1) := by decide +kernel
theorem d_MO_made_7 : decode b_MO_made 7 = .ok (.putfield 89, 3) := by decide +kernel
theorem d_MO_made_10 : decode b_MO_made 10 = .ok (.aload_n 0, 1) := by decide +kernel
theorem d_MO_made_11 : decode b_MO_made 11 = .ok (.getfield 41, 3) := by decide +kernel
theorem d_MO_made_14 : decode b_MO_made 14 = .ok (.aload_n 0, 1) := by decide +kernel
theorem d_MO_made_15 : decode b_MO_made 15 = .ok (.getfield 89, 3) := by decide +kernel
theorem d_MO_made_18 : decode b_MO_made 18 = .ok (.iload_n 1, 1) := by decide +kernel
theorem d_MO_made_19 : decode b_MO_made 19 = .ok (.iastore, 1) := by decide +kernel
theorem d_MO_made_20 : decode b_MO_made 20 = .ok (.aload_n 0, 1) := by decide +kernel
theorem d_MO_made_21 : decode b_MO_made 21 = .ok (.getfield 44, 3) := by decide +kernel
theorem d_MO_made_24 : decode b_MO_made 24 = .ok (.aload_n 0, 1) := by decide +kernel
theorem d_MO_made_25 : decode b_MO_made 25 = .ok (.getfield 89, 3) := by decide +kernel
theorem d_MO_made_28 : decode b_MO_made 28 = .ok (.iload_n 2, 1) := by decide +kernel
theorem d_MO_made_29 : decode b_MO_made 29 = .ok (.iastore, 1) := by decide +kernel
theorem d_MO_made_30 : decode b_MO_made 30 = .ok (.aload_n 0, 1) := by decide +kernel
theorem d_MO_made_31 : decode b_MO_made 31 = .ok (.getfield 89, 3) := by decide +kernel
theorem d_MO_made_34 : decode b_MO_made 34 = .ok (.ireturn, 1) := by decide +kernel
theorem d_MO_ends_0 : decode b_MO_ends 0 = .ok (.aload_n 0, 1) := by decide +kernel
theorem d_MO_ends_1 : decode b_MO_ends 1 = .ok (.iload_n 1, 1) := by decide +kernel
theorem d_MO_ends_2 : decode b_MO_ends 2 = .ok (.putfield 92, 3) := by decide +kernel
theorem d_MO_ends_5 : decode b_MO_ends 5 = .ok (.aload_n 0, 1) := by decide +kernel
theorem d_MO_ends_6 : decode b_MO_ends 6 = .ok (.iload_n 2, 1) := by decide +kernel
theorem d_MO_ends_7 : decode b_MO_ends 7 = .ok (.putfield 95, 3) := by decide +kernel
theorem d_MO_ends_10 : decode b_MO_ends 10 = .ok (.return_, 1) := by decide +kernel
theorem d_MO_raise_0 : decode b_MO_raise 0 = .ok (.aload_n 0, 1) := by decide +kernel
theorem d_MO_raise_1 : decode b_MO_raise 1 = .ok (.iconst 4, 1) := by decide +kernel
theorem d_MO_raise_2 : decode b_MO_raise 2 = .ok (.aload_n 0, 1) := by decide +kernel
theorem d_MO_raise_3 : decode b_MO_raise 3 = .ok (.iload_n 1, 1) := by decide +kernel
theorem d_MO_raise_4 : decode b_MO_raise 4 = .ok (.iload_n 2, 1) := by decide +kernel
theorem d_MO_raise_5 : decode b_MO_raise 5 = .ok (.invokevirtual 98, 3) := by decide +kernel
theorem d_MO_raise_8 : decode b_MO_raise 8 = .ok (.invokevirtual 101, 3) := by decide +kernel
theorem d_MO_raise_11 : decode b_MO_raise 11 = .ok (.return_, 1) := by decide +kernel
