/-! decode rows, written by wip/gen/names.py -/
theorem d_LB_init_0 : decode b_LB_init 0 = .ok (.aload_n 0, 1) := by decide +kernel
theorem d_LB_init_1 : decode b_LB_init 1 = .ok (.invokespecial 3, 3) := by decide +kernel
theorem d_LB_init_4 : decode b_LB_init 4 = .ok (.aload_n 0, 1) := by decide +kernel
theorem d_LB_init_5 : decode b_LB_init 5 = .ok (.new 9, 3) := by decide +kernel
theorem d_LB_init_8 : decode b_LB_init 8 = .ok (.dup, 1) := by decide +kernel
theorem d_LB_init_9 : decode b_LB_init 9 = .ok (.invokespecial 11, 3) := by decide +kernel
theorem d_LB_init_12 : decode b_LB_init 12 = .ok (.putfield 12, 3) := by decide +kernel
theorem d_LB_init_15 : decode b_LB_init 15 = .ok (.aload_n 0, 1) := by decide +kernel
theorem d_LB_init_16 : decode b_LB_init 16 = .ok (.new 16, 3) := by decide +kernel
theorem d_LB_init_19 : decode b_LB_init 19 = .ok (.dup, 1) := by decide +kernel
theorem d_LB_init_20 : decode b_LB_init 20 = .ok (.invokespecial 18, 3) := by decide +kernel
theorem d_LB_init_23 : decode b_LB_init 23 = .ok (.putfield 19, 3) := by decide +kernel
theorem d_LB_init_26 : decode b_LB_init 26 = .ok (.aload_n 0, 1) := by decide +kernel
theorem d_LB_init_27 : decode b_LB_init 27 = .ok (.iconst (-1), 1) := by decide +kernel
theorem d_LB_init_28 : decode b_LB_init 28 = .ok (.putfield 23, 3) := by decide +kernel
theorem d_LB_init_31 : decode b_LB_init 31 = .ok (.return_, 1) := by decide +kernel
theorem d_LB_token_0 : decode b_LB_token 0 = .ok (.iload_n 1, 1) := by decide +kernel
theorem d_LB_token_1 : decode b_LB_token 1 = .ok (.iconst 4, 1) := by decide +kernel
theorem d_LB_token_2 : decode b_LB_token 2 = .ok (.invokestatic 27, 3) := by decide +kernel
theorem d_LB_token_5 : decode b_LB_token 5 = .ok (.ifCond .eq 11, 3) := by decide +kernel
theorem d_LB_token_8 : decode b_LB_token 8 = .ok (.iload_n 2, 1) := by decide +kernel
theorem d_LB_token_9 : decode b_LB_token 9 = .ok (.iload_n 3, 1) := by decide +kernel
theorem d_LB_token_10 : decode b_LB_token 10 = .ok (.invokestatic 31, 3) := by decide +kernel
theorem d_LB_token_13 : decode b_LB_token 13 = .ok (.ifCond .ne 5, 3) := by decide +kernel
theorem d_LB_token_16 : decode b_LB_token 16 = .ok (.iconst (-1), 1) := by decide +kernel
theorem d_LB_token_17 : decode b_LB_token 17 = .ok (.ireturn, 1) := by decide +kernel
theorem d_LB_token_18 : decode b_LB_token 18 = .ok (.aload_n 0, 1) := by decide +kernel
theorem d_LB_token_19 : decode b_LB_token 19 = .ok (.getfield 12, 3) := by decide +kernel
theorem d_LB_token_22 : decode b_LB_token 22 = .ok (.getfield 34, 3) := by decide +kernel
theorem d_LB_token_25 : decode b_LB_token 25 = .ok (.iload_n 1, 1) := by decide +kernel
theorem d_LB_token_26 : decode b_LB_token 26 = .ok (.aaload, 1) := by decide +kernel
theorem d_LB_token_27 : decode b_LB_token 27 = .ok (.astore 4, 2) := by decide +kernel
theorem d_LB_token_29 : decode b_LB_token 29 = .ok (.aload 4, 2) := by decide +kernel
theorem d_LB_token_31 : decode b_LB_token 31 = .ok (.iload_n 2, 1) := by decide +kernel
theorem d_LB_token_32 : decode b_LB_token 32 = .ok (.iload_n 3, 1) := by decide +kernel
theorem d_LB_token_33 : decode b_LB_token 33 = .ok (.invokevirtual 38, 3) := by decide +kernel
theorem d_LB_token_36 : decode b_LB_token 36 = .ok (.ifCond .eq 11, 3) := by decide +kernel
theorem d_LB_token_39 : decode b_LB_token 39 = .ok (.aload 4, 2) := by decide +kernel
theorem d_LB_token_41 : decode b_LB_token 41 = .ok (.getfield 43, 3) := by decide +kernel
theorem d_LB_token_44 : decode b_LB_token 44 = .ok (.goto 5, 3) := by decide +kernel
theorem d_LB_token_47 : decode b_LB_token 47 = .ok (.bipush (-2), 2) := by decide +kernel
theorem d_LB_token_49 : decode b_LB_token 49 = .ok (.ireturn, 1) := by decide +kernel
theorem d_LB_wipe_0 : decode b_LB_wipe 0 = .ok (.iload_n 1, 1) := by decide +kernel
theorem d_LB_wipe_1 : decode b_LB_wipe 1 = .ok (.iconst 4, 1) := by decide +kernel
theorem d_LB_wipe_2 : decode b_LB_wipe 2 = .ok (.invokestatic 27, 3) := by decide +kernel
theorem d_LB_wipe_5 : decode b_LB_wipe 5 = .ok (.ifCond .ne 5, 3) := by decide +kernel
theorem d_LB_wipe_8 : decode b_LB_wipe 8 = .ok (.iconst (-1), 1) := by decide +kernel
theorem d_LB_wipe_9 : decode b_LB_wipe 9 = .ok (.ireturn, 1) := by decide +kernel
theorem d_LB_wipe_10 : decode b_LB_wipe 10 = .ok (.aload_n 0, 1) := by decide +kernel
theorem d_LB_wipe_11 : decode b_LB_wipe 11 = .ok (.getfield 12, 3) := by decide +kernel
theorem d_LB_wipe_14 : decode b_LB_wipe 14 = .ok (.getfield 34, 3) := by decide +kernel
theorem d_LB_wipe_17 : decode b_LB_wipe 17 = .ok (.iload_n 1, 1) := by decide +kernel
theorem d_LB_wipe_18 : decode b_LB_wipe 18 = .ok (.aaload, 1) := by decide +kernel
theorem d_LB_wipe_19 : decode b_LB_wipe 19 = .ok (.invokevirtual 46, 3) := by decide +kernel
theorem d_LB_wipe_22 : decode b_LB_wipe 22 = .ok (.ireturn, 1) := by decide +kernel
theorem d_LB_check_0 : decode b_LB_check 0 = .ok (.iload_n 1, 1) := by decide +kernel
theorem d_LB_check_1 : decode b_LB_check 1 = .ok (.iconst 4, 1) := by decide +kernel
theorem d_LB_check_2 : decode b_LB_check 2 = .ok (.invokestatic 27, 3) := by decide +kernel
theorem d_LB_check_5 : decode b_LB_check 5 = .ok (.ifCond .eq 11, 3) := by decide +kernel
theorem d_LB_check_8 : decode b_LB_check 8 = .ok (.aload_n 0, 1) := by decide +kernel
theorem d_LB_check_9 : decode b_LB_check 9 = .ok (.iload_n 1, 1) := by decide +kernel
theorem d_LB_check_10 : decode b_LB_check 10 = .ok (.invokevirtual 50, 3) := by decide +kernel
theorem d_LB_check_13 : decode b_LB_check 13 = .ok (.goto 4, 3) := by decide +kernel
theorem d_LB_check_16 : decode b_LB_check 16 = .ok (.iconst (-1), 1) := by decide +kernel
theorem d_LB_check_17 : decode b_LB_check 17 = .ok (.ireturn, 1) := by decide +kernel
theorem d_LB_place_0 : decode b_LB_place 0 = .ok (.aload_n 0, 1) := by decide +kernel
theorem d_LB_place_1 : decode b_LB_place 1 = .ok (.getfield 23, 3) := by decide +kernel
theorem d_LB_place_4 : decode b_LB_place 4 = .ok (.ireturn, 1) := by decide +kernel
theorem d_LB_run_0 : decode b_LB_run 0 = .ok (.iload_n 1, 1) := by decide +kernel
theorem d_LB_run_1 : decode b_LB_run 1 = .ok (.iconst 4, 1) := by decide +kernel
theorem d_LB_run_2 : decode b_LB_run 2 = .ok (.invokestatic 27, 3) := by decide +kernel
theorem d_LB_run_5 : decode b_LB_run 5 = .ok (.ifCond .ne 5, 3) := by decide +kernel
theorem d_LB_run_8 : decode b_LB_run 8 = .ok (.iconst (-1), 1) := by decide +kernel
theorem d_LB_run_9 : decode b_LB_run 9 = .ok (.ireturn, 1) := by decide +kernel
theorem d_LB_run_10 : decode b_LB_run 10 = .ok (.aload_n 0, 1) := by decide +kernel
theorem d_LB_run_11 : decode b_LB_run 11 = .ok (.iload_n 1, 1) := by decide +kernel
theorem d_LB_run_12 : decode b_LB_run 12 = .ok (.invokevirtual 54, 3) := by decide +kernel
theorem d_LB_run_15 : decode b_LB_run 15 = .ok (.ifCond .ne 15, 3) := by decide +kernel
theorem d_LB_run_18 : decode b_LB_run 18 = .ok (.aload_n 0, 1) := by decide +kernel
theorem d_LB_run_19 : decode b_LB_run 19 = .ok (.getfield 12, 3) := by decide +kernel
theorem d_LB_run_22 : decode b_LB_run 22 = .ok (.iload_n 1, 1) := by decide +kernel
theorem d_LB_run_23 : decode b_LB_run 23 = .ok (.iload_n 2, 1) := by decide +kernel
theorem d_LB_run_24 : decode b_LB_run 24 = .ok (.invokevirtual 57, 3) := by decide +kernel
theorem d_LB_run_27 : decode b_LB_run 27 = .ok (.goto 5, 3) := by decide +kernel
theorem d_LB_run_30 : decode b_LB_run 30 = .ok (.bipush (-3), 2) := by decide +kernel
theorem d_LB_run_32 : decode b_LB_run 32 = .ok (.ireturn, 1) := by decide +kernel
theorem d_LB_value_0 : decode b_LB_value 0 = .ok (.aload_n 0, 1) := by decide +kernel
theorem d_LB_value_1 : decode b_LB_value 1 = .ok (.getfield 12, 3) := by decide +kernel
theorem d_LB_value_4 : decode b_LB_value 4 = .ok (.getfield 61, 3) := by decide +kernel
theorem d_LB_value_7 : decode b_LB_value 7 = .ok (.ireturn, 1) := by decide +kernel
theorem d_LB_fault_0 : decode b_LB_fault 0 = .ok (.iload_n 1, 1) := by decide +kernel
theorem d_LB_fault_1 : decode b_LB_fault 1 = .ok (.ifCond .ge 7, 3) := by decide +kernel
theorem d_LB_fault_4 : decode b_LB_fault 4 = .ok (.iconst (-1), 1) := by decide +kernel
theorem d_LB_fault_5 : decode b_LB_fault 5 = .ok (.goto 31, 3) := by decide +kernel
theorem d_LB_fault_8 : decode b_LB_fault 8 = .ok (.aload_n 0, 1) := by decide +kernel
theorem d_LB_fault_9 : decode b_LB_fault 9 = .ok (.getfield 12, 3) := by decide +kernel
theorem d_LB_fault_12 : decode b_LB_fault 12 = .ok (.getfield 64, 3) := by decide +kernel
theorem d_LB_fault_15 : decode b_LB_fault 15 = .ok (.aload_n 0, 1) := by decide +kernel
theorem d_LB_fault_16 : decode b_LB_fault 16 = .ok (.getfield 12, 3) := by decide +kernel
theorem d_LB_fault_19 : decode b_LB_fault 19 = .ok (.getfield 64, 3) := by decide +kernel
theorem d_LB_fault_22 : decode b_LB_fault 22 = .ok (.aload_n 0, 1) := by decide +kernel
theorem d_LB_fault_23 : decode b_LB_fault 23 = .ok (.getfield 12, 3) := by decide +kernel
theorem d_LB_fault_26 : decode b_LB_fault 26 = .ok (.getfield 68, 3) := by decide +kernel
theorem d_LB_fault_29 : decode b_LB_fault 29 = .ok (.iload_n 1, 1) := by decide +kernel
theorem d_LB_fault_30 : decode b_LB_fault 30 = .ok (.invokevirtual 71, 3) := by decide +kernel
theorem d_LB_fault_33 : decode b_LB_fault 33 = .ok (.invokevirtual 76, 3) := by decide +kernel
theorem d_LB_fault_36 : decode b_LB_fault 36 = .ok (.ireturn, 1) := by decide +kernel
theorem d_LB_steps_0 : decode b_LB_steps 0 = .ok (.aload_n 0, 1) := by decide +kernel
theorem d_LB_steps_1 : decode b_LB_steps 1 = .ok (.getfield 12, 3) := by decide +kernel
theorem d_LB_steps_4 : decode b_LB_steps 4 = .ok (.getfield 79, 3) := by decide +kernel
theorem d_LB_steps_7 : decode b_LB_steps 7 = .ok (.ireturn, 1) := by decide +kernel
theorem d_LB_events_0 : decode b_LB_events 0 = .ok (.aload_n 0, 1) := by decide +kernel
theorem d_LB_events_1 : decode b_LB_events 1 = .ok (.getfield 12, 3) := by decide +kernel
theorem d_LB_events_4 : decode b_LB_events 4 = .ok (.getfield 82, 3) := by decide +kernel
theorem d_LB_events_7 : decode b_LB_events 7 = .ok (.getfield 86, 3) := by decide +kernel
theorem d_LB_events_10 : decode b_LB_events 10 = .ok (.ireturn, 1) := by decide +kernel
theorem d_LB_event_0 : decode b_LB_event 0 = .ok (.aload_n 0, 1) := by decide +kernel
theorem d_LB_event_1 : decode b_LB_event 1 = .ok (.getfield 12, 3) := by decide +kernel
theorem d_LB_event_4 : decode b_LB_event 4 = .ok (.getfield 82, 3) := by decide +kernel
theorem d_LB_event_7 : decode b_LB_event 7 = .ok (.iload_n 1, 1) := by decide +kernel
theorem d_LB_event_8 : decode b_LB_event 8 = .ok (.invokevirtual 91, 3) := by decide +kernel
theorem d_LB_event_11 : decode b_LB_event 11 = .ok (.ireturn, 1) := by decide +kernel
theorem d_LB_most_0 : decode b_LB_most 0 = .ok (.aload_n 0, 1) := by decide +kernel
theorem d_LB_most_1 : decode b_LB_most 1 = .ok (.getfield 12, 3) := by decide +kernel
theorem d_LB_most_4 : decode b_LB_most 4 = .ok (.getfield 94, 3) := by decide +kernel
theorem d_LB_most_7 : decode b_LB_most 7 = .ok (.getfield 98, 3) := by decide +kernel
theorem d_LB_most_10 : decode b_LB_most 10 = .ok (.ireturn, 1) := by decide +kernel
theorem d_LB_judge_0 : decode b_LB_judge 0 = .ok (.aload_n 0, 1) := by decide +kernel
theorem d_LB_judge_1 : decode b_LB_judge 1 = .ok (.getfield 19, 3) := by decide +kernel
theorem d_LB_judge_4 : decode b_LB_judge 4 = .ok (.aload_n 0, 1) := by decide +kernel
theorem d_LB_judge_5 : decode b_LB_judge 5 = .ok (.getfield 12, 3) := by decide +kernel
theorem d_LB_judge_8 : decode b_LB_judge 8 = .ok (.getfield 34, 3) := by decide +kernel
theorem d_LB_judge_11 : decode b_LB_judge 11 = .ok (.iload_n 1, 1) := by decide +kernel
theorem d_LB_judge_12 : decode b_LB_judge 12 = .ok (.aaload, 1) := by decide +kernel
theorem d_LB_judge_13 : decode b_LB_judge 13 = .ok (.invokevirtual 103, 3) := by decide +kernel
theorem d_LB_judge_16 : decode b_LB_judge 16 = .ok (.istore_n 2, 1) := by decide +kernel
theorem d_LB_judge_17 : decode b_LB_judge 17 = .ok (.aload_n 0, 1) := by decide +kernel
theorem d_LB_judge_18 : decode b_LB_judge 18 = .ok (.iload_n 2, 1) := by decide +kernel
theorem d_LB_judge_19 : decode b_LB_judge 19 = .ok (.iconst (-1), 1) := by decide +kernel
theorem d_LB_judge_20 : decode b_LB_judge 20 = .ok (.if_icmp .ne 7, 3) := by decide +kernel
theorem d_LB_judge_23 : decode b_LB_judge 23 = .ok (.iconst (-1), 1) := by decide +kernel
theorem d_LB_judge_24 : decode b_LB_judge 24 = .ok (.goto 9, 3) := by decide +kernel
theorem d_LB_judge_27 : decode b_LB_judge 27 = .ok (.bipush 32, 2) := by decide +kernel
theorem d_LB_judge_29 : decode b_LB_judge 29 = .ok (.iload_n 1, 1) := by decide +kernel
theorem d_LB_judge_30 : decode b_LB_judge 30 = .ok (.imul, 1) := by decide +kernel
theorem d_LB_judge_31 : decode b_LB_judge 31 = .ok (.iload_n 2, 1) := by decide +kernel
theorem d_LB_judge_32 : decode b_LB_judge 32 = .ok (.iadd, 1) := by decide +kernel
theorem d_LB_judge_33 : decode b_LB_judge 33 = .ok (.putfield 23, 3) := by decide +kernel
theorem d_LB_judge_36 : decode b_LB_judge 36 = .ok (.iload_n 2, 1) := by decide +kernel
theorem d_LB_judge_37 : decode b_LB_judge 37 = .ok (.iconst (-1), 1) := by decide +kernel
theorem d_LB_judge_38 : decode b_LB_judge 38 = .ok (.if_icmp .ne 7, 3) := by decide +kernel
theorem d_LB_judge_41 : decode b_LB_judge 41 = .ok (.iconst 0, 1) := by decide +kernel
theorem d_LB_judge_42 : decode b_LB_judge 42 = .ok (.goto 5, 3) := by decide +kernel
theorem d_LB_judge_45 : decode b_LB_judge 45 = .ok (.bipush (-3), 2) := by decide +kernel
theorem d_LB_judge_47 : decode b_LB_judge 47 = .ok (.ireturn, 1) := by decide +kernel
theorem d_LB_judgeAll_0 : decode b_LB_judgeAll 0 = .ok (.iconst 0, 1) := by decide +kernel
theorem d_LB_judgeAll_1 : decode b_LB_judgeAll 1 = .ok (.istore_n 2, 1) := by decide +kernel
theorem d_LB_judgeAll_2 : decode b_LB_judgeAll 2 = .ok (.iload_n 2, 1) := by decide +kernel
theorem d_LB_judgeAll_3 : decode b_LB_judgeAll 3 = .ok (.iconst 4, 1) := by decide +kernel
theorem d_LB_judgeAll_4 : decode b_LB_judgeAll 4 = .ok (.if_icmp .ge 42, 3) := by decide +kernel
theorem d_LB_judgeAll_7 : decode b_LB_judgeAll 7 = .ok (.iload_n 2, 1) := by decide +kernel
theorem d_LB_judgeAll_8 : decode b_LB_judgeAll 8 = .ok (.iload_n 1, 1) := by decide +kernel
theorem d_LB_judgeAll_9 : decode b_LB_judgeAll 9 = .ok (.if_icmp .eq 18, 3) := by decide +kernel
theorem d_LB_judgeAll_12 : decode b_LB_judgeAll 12 = .ok (.aload_n 0, 1) := by decide +kernel
theorem d_LB_judgeAll_13 : decode b_LB_judgeAll 13 = .ok (.getfield 12, 3) := by decide +kernel
theorem d_LB_judgeAll_16 : decode b_LB_judgeAll 16 = .ok (.getfield 34, 3) := by decide +kernel
theorem d_LB_judgeAll_19 : decode b_LB_judgeAll 19 = .ok (.iload_n 2, 1) := by decide +kernel
theorem d_LB_judgeAll_20 : decode b_LB_judgeAll 20 = .ok (.aaload, 1) := by decide +kernel
theorem d_LB_judgeAll_21 : decode b_LB_judgeAll 21 = .ok (.getfield 43, 3) := by decide +kernel
theorem d_LB_judgeAll_24 : decode b_LB_judgeAll 24 = .ok (.ifCond .le 16, 3) := by decide +kernel
theorem d_LB_judgeAll_27 : decode b_LB_judgeAll 27 = .ok (.aload_n 0, 1) := by decide +kernel
theorem d_LB_judgeAll_28 : decode b_LB_judgeAll 28 = .ok (.iload_n 2, 1) := by decide +kernel
theorem d_LB_judgeAll_29 : decode b_LB_judgeAll 29 = .ok (.invokevirtual 50, 3) := by decide +kernel
theorem d_LB_judgeAll_32 : decode b_LB_judgeAll 32 = .ok (.bipush (-3), 2) := by decide +kernel
theorem d_LB_judgeAll_34 : decode b_LB_judgeAll 34 = .ok (.if_icmp .ne 6, 3) := by decide +kernel
theorem d_LB_judgeAll_37 : decode b_LB_judgeAll 37 = .ok (.bipush (-3), 2) := by decide +kernel
theorem d_LB_judgeAll_39 : decode b_LB_judgeAll 39 = .ok (.ireturn, 1) := by decide +kernel
theorem d_LB_judgeAll_40 : decode b_LB_judgeAll 40 = .ok (.iinc 2 1, 3) := by decide +kernel
theorem d_LB_judgeAll_43 : decode b_LB_judgeAll 43 = .ok (.goto (-41), 3) := by decide +kernel
theorem d_LB_judgeAll_46 : decode b_LB_judgeAll 46 = .ok (.iconst 0, 1) := by decide +kernel
theorem d_LB_judgeAll_47 : decode b_LB_judgeAll 47 = .ok (.ireturn, 1) := by decide +kernel
theorem d_LB_isToken_0 : decode b_LB_isToken 0 = .ok (.iload_n 0, 1) := by decide +kernel
theorem d_LB_isToken_1 : decode b_LB_isToken 1 = .ok (.tableswitch 106 3 16 #[71, 106, 106, 106, 78, 78, 85, 94, 94, 94, 100, 106, 94, 78], 71) := by decide +kernel
theorem d_LB_isToken_72 : decode b_LB_isToken 72 = .ok (.iload_n 1, 1) := by decide +kernel
theorem d_LB_isToken_73 : decode b_LB_isToken 73 = .ok (.bipush 6, 2) := by decide +kernel
theorem d_LB_isToken_75 : decode b_LB_isToken 75 = .ok (.invokestatic 27, 3) := by decide +kernel
theorem d_LB_isToken_78 : decode b_LB_isToken 78 = .ok (.ireturn, 1) := by decide +kernel
theorem d_LB_isToken_79 : decode b_LB_isToken 79 = .ok (.iload_n 1, 1) := by decide +kernel
theorem d_LB_isToken_80 : decode b_LB_isToken 80 = .ok (.bipush 7, 2) := by decide +kernel
theorem d_LB_isToken_82 : decode b_LB_isToken 82 = .ok (.invokestatic 27, 3) := by decide +kernel
theorem d_LB_isToken_85 : decode b_LB_isToken 85 = .ok (.ireturn, 1) := by decide +kernel
theorem d_LB_isToken_86 : decode b_LB_isToken 86 = .ok (.iload_n 1, 1) := by decide +kernel
theorem d_LB_isToken_87 : decode b_LB_isToken 87 = .ok (.bipush (-5), 2) := by decide +kernel
theorem d_LB_isToken_89 : decode b_LB_isToken 89 = .ok (.iand, 1) := by decide +kernel
theorem d_LB_isToken_90 : decode b_LB_isToken 90 = .ok (.iconst 3, 1) := by decide +kernel
theorem d_LB_isToken_91 : decode b_LB_isToken 91 = .ok (.invokestatic 27, 3) := by decide +kernel
theorem d_LB_isToken_94 : decode b_LB_isToken 94 = .ok (.ireturn, 1) := by decide +kernel
theorem d_LB_isToken_95 : decode b_LB_isToken 95 = .ok (.iload_n 1, 1) := by decide +kernel
theorem d_LB_isToken_96 : decode b_LB_isToken 96 = .ok (.iconst 3, 1) := by decide +kernel
theorem d_LB_isToken_97 : decode b_LB_isToken 97 = .ok (.invokestatic 27, 3) := by decide +kernel
theorem d_LB_isToken_100 : decode b_LB_isToken 100 = .ok (.ireturn, 1) := by decide +kernel
theorem d_LB_isToken_101 : decode b_LB_isToken 101 = .ok (.iload_n 1, 1) := by decide +kernel
theorem d_LB_isToken_102 : decode b_LB_isToken 102 = .ok (.iconst 4, 1) := by decide +kernel
theorem d_LB_isToken_103 : decode b_LB_isToken 103 = .ok (.invokestatic 27, 3) := by decide +kernel
theorem d_LB_isToken_106 : decode b_LB_isToken 106 = .ok (.ireturn, 1) := by decide +kernel
theorem d_LB_isToken_107 : decode b_LB_isToken 107 = .ok (.iload_n 0, 1) := by decide +kernel
theorem d_LB_isToken_108 : decode b_LB_isToken 108 = .ok (.bipush 19, 2) := by decide +kernel
theorem d_LB_isToken_110 : decode b_LB_isToken 110 = .ok (.invokestatic 27, 3) := by decide +kernel
theorem d_LB_isToken_113 : decode b_LB_isToken 113 = .ok (.ireturn, 1) := by decide +kernel
theorem d_LB_isBelow_0 : decode b_LB_isBelow 0 = .ok (.iload_n 0, 1) := by decide +kernel
theorem d_LB_isBelow_1 : decode b_LB_isBelow 1 = .ok (.ifCond .lt 12, 3) := by decide +kernel
theorem d_LB_isBelow_4 : decode b_LB_isBelow 4 = .ok (.iload_n 0, 1) := by decide +kernel
theorem d_LB_isBelow_5 : decode b_LB_isBelow 5 = .ok (.iload_n 1, 1) := by decide +kernel
theorem d_LB_isBelow_6 : decode b_LB_isBelow 6 = .ok (.if_icmp .ge 7, 3) := by decide +kernel
theorem d_LB_isBelow_9 : decode b_LB_isBelow 9 = .ok (.iconst 1, 1) := by decide +kernel
theorem d_LB_isBelow_10 : decode b_LB_isBelow 10 = .ok (.goto 4, 3) := by decide +kernel
theorem d_LB_isBelow_13 : decode b_LB_isBelow 13 = .ok (.iconst 0, 1) := by decide +kernel
theorem d_LB_isBelow_14 : decode b_LB_isBelow 14 = .ok (.ireturn, 1) := by decide +kernel
theorem d_LB_isOfKind_0 : decode b_LB_isOfKind 0 = .ok (.iload_n 1, 1) := by decide +kernel
theorem d_LB_isOfKind_1 : decode b_LB_isOfKind 1 = .ok (.ifCond .eq 29, 3) := by decide +kernel
theorem d_LB_isOfKind_4 : decode b_LB_isOfKind 4 = .ok (.iload_n 0, 1) := by decide +kernel
theorem d_LB_isOfKind_5 : decode b_LB_isOfKind 5 = .ok (.iload_n 1, 1) := by decide +kernel
theorem d_LB_isOfKind_6 : decode b_LB_isOfKind 6 = .ok (.if_icmp .eq 24, 3) := by decide +kernel
theorem d_LB_isOfKind_9 : decode b_LB_isOfKind 9 = .ok (.iload_n 0, 1) := by decide +kernel
theorem d_LB_isOfKind_10 : decode b_LB_isOfKind 10 = .ok (.iconst 3, 1) := by decide +kernel
theorem d_LB_isOfKind_11 : decode b_LB_isOfKind 11 = .ok (.if_icmp .ne 8, 3) := by decide +kernel
theorem d_LB_isOfKind_14 : decode b_LB_isOfKind 14 = .ok (.iload_n 1, 1) := by decide +kernel
theorem d_LB_isOfKind_15 : decode b_LB_isOfKind 15 = .ok (.iconst 1, 1) := by decide +kernel
theorem d_LB_isOfKind_16 : decode b_LB_isOfKind 16 = .ok (.if_icmp .eq 14, 3) := by decide +kernel
theorem d_LB_isOfKind_19 : decode b_LB_isOfKind 19 = .ok (.iload_n 0, 1) := by decide +kernel
theorem d_LB_isOfKind_20 : decode b_LB_isOfKind 20 = .ok (.bipush 6, 2) := by decide +kernel
theorem d_LB_isOfKind_22 : decode b_LB_isOfKind 22 = .ok (.if_icmp .ne 12, 3) := by decide +kernel
theorem d_LB_isOfKind_25 : decode b_LB_isOfKind 25 = .ok (.iload_n 1, 1) := by decide +kernel
theorem d_LB_isOfKind_26 : decode b_LB_isOfKind 26 = .ok (.iconst 2, 1) := by decide +kernel
theorem d_LB_isOfKind_27 : decode b_LB_isOfKind 27 = .ok (.if_icmp .ne 7, 3) := by decide +kernel
theorem d_LB_isOfKind_30 : decode b_LB_isOfKind 30 = .ok (.iconst 1, 1) := by decide +kernel
theorem d_LB_isOfKind_31 : decode b_LB_isOfKind 31 = .ok (.goto 4, 3) := by decide +kernel
theorem d_LB_isOfKind_34 : decode b_LB_isOfKind 34 = .ok (.iconst 0, 1) := by decide +kernel
theorem d_LB_isOfKind_35 : decode b_LB_isOfKind 35 = .ok (.ireturn, 1) := by decide +kernel
theorem d_CH_init_0 : decode b_CH_init 0 = .ok (.aload_n 0, 1) := by decide +kernel
theorem d_CH_init_1 : decode b_CH_init 1 = .ok (.invokespecial 3, 3) := by decide +kernel
theorem d_CH_init_4 : decode b_CH_init 4 = .ok (.aload_n 0, 1) := by decide +kernel
theorem d_CH_init_5 : decode b_CH_init 5 = .ok (.bipush 7, 2) := by decide +kernel
theorem d_CH_init_7 : decode b_CH_init 7 = .ok (.newarray .int, 2) := by decide +kernel
theorem d_CH_init_9 : decode b_CH_init 9 = .ok (.putfield 9, 3) := by decide +kernel
theorem d_CH_init_12 : decode b_CH_init 12 = .ok (.aload_n 0, 1) := by decide +kernel
theorem d_CH_init_13 : decode b_CH_init 13 = .ok (.bipush 7, 2) := by decide +kernel
theorem d_CH_init_15 : decode b_CH_init 15 = .ok (.newarray .boolean, 2) := by decide +kernel
theorem d_CH_init_17 : decode b_CH_init 17 = .ok (.putfield 15, 3) := by decide +kernel
theorem d_CH_init_20 : decode b_CH_init 20 = .ok (.aload_n 0, 1) := by decide +kernel
theorem d_CH_init_21 : decode b_CH_init 21 = .ok (.bipush 7, 2) := by decide +kernel
theorem d_CH_init_23 : decode b_CH_init 23 = .ok (.newarray .boolean, 2) := by decide +kernel
theorem d_CH_init_25 : decode b_CH_init 25 = .ok (.putfield 19, 3) := by decide +kernel
theorem d_CH_init_28 : decode b_CH_init 28 = .ok (.aload_n 0, 1) := by decide +kernel
theorem d_CH_init_29 : decode b_CH_init 29 = .ok (.bipush 7, 2) := by decide +kernel
theorem d_CH_init_31 : decode b_CH_init 31 = .ok (.newarray .int, 2) := by decide +kernel
theorem d_CH_init_33 : decode b_CH_init 33 = .ok (.putfield 22, 3) := by decide +kernel
theorem d_CH_init_36 : decode b_CH_init 36 = .ok (.return_, 1) := by decide +kernel
theorem d_CH_firstWrong_0 : decode b_CH_firstWrong 0 = .ok (.aload_n 0, 1) := by decide +kernel
theorem d_CH_firstWrong_1 : decode b_CH_firstWrong 1 = .ok (.iconst 0, 1) := by decide +kernel
theorem d_CH_firstWrong_2 : decode b_CH_firstWrong 2 = .ok (.putfield 25, 3) := by decide +kernel
theorem d_CH_firstWrong_5 : decode b_CH_firstWrong 5 = .ok (.aload_n 0, 1) := by decide +kernel
theorem d_CH_firstWrong_6 : decode b_CH_firstWrong 6 = .ok (.iconst (-1), 1) := by decide +kernel
theorem d_CH_firstWrong_7 : decode b_CH_firstWrong 7 = .ok (.iconst 0, 1) := by decide +kernel
theorem d_CH_firstWrong_8 : decode b_CH_firstWrong 8 = .ok (.iconst 0, 1) := by decide +kernel
theorem d_CH_firstWrong_9 : decode b_CH_firstWrong 9 = .ok (.invokevirtual 29, 3) := by decide +kernel
theorem d_CH_firstWrong_12 : decode b_CH_firstWrong 12 = .ok (.iconst 0, 1) := by decide +kernel
theorem d_CH_firstWrong_13 : decode b_CH_firstWrong 13 = .ok (.istore_n 2, 1) := by decide +kernel
theorem d_CH_firstWrong_14 : decode b_CH_firstWrong 14 = .ok (.iload_n 2, 1) := by decide +kernel
theorem d_CH_firstWrong_15 : decode b_CH_firstWrong 15 = .ok (.aload_n 1, 1) := by decide +kernel
theorem d_CH_firstWrong_16 : decode b_CH_firstWrong 16 = .ok (.getfield 33, 3) := by decide +kernel
theorem d_CH_firstWrong_19 : decode b_CH_firstWrong 19 = .ok (.if_icmp .ge 37, 3) := by decide +kernel
theorem d_CH_firstWrong_22 : decode b_CH_firstWrong 22 = .ok (.aload_n 0, 1) := by decide +kernel
theorem d_CH_firstWrong_23 : decode b_CH_firstWrong 23 = .ok (.getfield 25, 3) := by decide +kernel
theorem d_CH_firstWrong_26 : decode b_CH_firstWrong 26 = .ok (.ifCond .eq 16, 3) := by decide +kernel
theorem d_CH_firstWrong_29 : decode b_CH_firstWrong 29 = .ok (.aload_n 0, 1) := by decide +kernel
theorem d_CH_firstWrong_30 : decode b_CH_firstWrong 30 = .ok (.aload_n 1, 1) := by decide +kernel
theorem d_CH_firstWrong_31 : decode b_CH_firstWrong 31 = .ok (.getfield 38, 3) := by decide +kernel
theorem d_CH_firstWrong_34 : decode b_CH_firstWrong 34 = .ok (.iload_n 2, 1) := by decide +kernel
theorem d_CH_firstWrong_35 : decode b_CH_firstWrong 35 = .ok (.iaload, 1) := by decide +kernel
theorem d_CH_firstWrong_36 : decode b_CH_firstWrong 36 = .ok (.invokevirtual 41, 3) := by decide +kernel
theorem d_CH_firstWrong_39 : decode b_CH_firstWrong 39 = .ok (.ifCond .ne 5, 3) := by decide +kernel
theorem d_CH_firstWrong_42 : decode b_CH_firstWrong 42 = .ok (.iload_n 2, 1) := by decide +kernel
theorem d_CH_firstWrong_43 : decode b_CH_firstWrong 43 = .ok (.ireturn, 1) := by decide +kernel
theorem d_CH_firstWrong_44 : decode b_CH_firstWrong 44 = .ok (.aload_n 0, 1) := by decide +kernel
theorem d_CH_firstWrong_45 : decode b_CH_firstWrong 45 = .ok (.aload_n 1, 1) := by decide +kernel
theorem d_CH_firstWrong_46 : decode b_CH_firstWrong 46 = .ok (.iload_n 2, 1) := by decide +kernel
theorem d_CH_firstWrong_47 : decode b_CH_firstWrong 47 = .ok (.invokevirtual 45, 3) := by decide +kernel
theorem d_CH_firstWrong_50 : decode b_CH_firstWrong 50 = .ok (.iinc 2 1, 3) := by decide +kernel
theorem d_CH_firstWrong_53 : decode b_CH_firstWrong 53 = .ok (.goto (-39), 3) := by decide +kernel
theorem d_CH_firstWrong_56 : decode b_CH_firstWrong 56 = .ok (.aload_n 0, 1) := by decide +kernel
theorem d_CH_firstWrong_57 : decode b_CH_firstWrong 57 = .ok (.getfield 25, 3) := by decide +kernel
theorem d_CH_firstWrong_60 : decode b_CH_firstWrong 60 = .ok (.ifCond .ne 7, 3) := by decide +kernel
theorem d_CH_firstWrong_63 : decode b_CH_firstWrong 63 = .ok (.iconst (-1), 1) := by decide +kernel
theorem d_CH_firstWrong_64 : decode b_CH_firstWrong 64 = .ok (.goto 7, 3) := by decide +kernel
theorem d_CH_firstWrong_67 : decode b_CH_firstWrong 67 = .ok (.aload_n 1, 1) := by decide +kernel
theorem d_CH_firstWrong_68 : decode b_CH_firstWrong 68 = .ok (.getfield 33, 3) := by decide +kernel
theorem d_CH_firstWrong_71 : decode b_CH_firstWrong 71 = .ok (.ireturn, 1) := by decide +kernel
theorem d_CH_mayStand_0 : decode b_CH_mayStand 0 = .ok (.aload_n 0, 1) := by decide +kernel
theorem d_CH_mayStand_1 : decode b_CH_mayStand 1 = .ok (.getfield 22, 3) := by decide +kernel
theorem d_CH_mayStand_4 : decode b_CH_mayStand 4 = .ok (.aload_n 0, 1) := by decide +kernel
theorem d_CH_mayStand_5 : decode b_CH_mayStand 5 = .ok (.getfield 25, 3) := by decide +kernel
theorem d_CH_mayStand_8 : decode b_CH_mayStand 8 = .ok (.iaload, 1) := by decide +kernel
theorem d_CH_mayStand_9 : decode b_CH_mayStand 9 = .ok (.ifCond .eq 34, 3) := by decide +kernel
theorem d_CH_mayStand_12 : decode b_CH_mayStand 12 = .ok (.iload_n 1, 1) := by decide +kernel
theorem d_CH_mayStand_13 : decode b_CH_mayStand 13 = .ok (.aload_n 0, 1) := by decide +kernel
theorem d_CH_mayStand_14 : decode b_CH_mayStand 14 = .ok (.getfield 22, 3) := by decide +kernel
theorem d_CH_mayStand_17 : decode b_CH_mayStand 17 = .ok (.aload_n 0, 1) := by decide +kernel
theorem d_CH_mayStand_18 : decode b_CH_mayStand 18 = .ok (.getfield 25, 3) := by decide +kernel
theorem d_CH_mayStand_21 : decode b_CH_mayStand 21 = .ok (.iaload, 1) := by decide +kernel
theorem d_CH_mayStand_22 : decode b_CH_mayStand 22 = .ok (.iconst 3, 1) := by decide +kernel
theorem d_CH_mayStand_23 : decode b_CH_mayStand 23 = .ok (.iand, 1) := by decide +kernel
theorem d_CH_mayStand_24 : decode b_CH_mayStand 24 = .ok (.ifCond .eq 8, 3) := by decide +kernel
theorem d_CH_mayStand_27 : decode b_CH_mayStand 27 = .ok (.bipush 16, 2) := by decide +kernel
theorem d_CH_mayStand_29 : decode b_CH_mayStand 29 = .ok (.goto 5, 3) := by decide +kernel
theorem d_CH_mayStand_32 : decode b_CH_mayStand 32 = .ok (.bipush 17, 2) := by decide +kernel
theorem d_CH_mayStand_34 : decode b_CH_mayStand 34 = .ok (.if_icmp .ne 7, 3) := by decide +kernel
theorem d_CH_mayStand_37 : decode b_CH_mayStand 37 = .ok (.iconst 1, 1) := by decide +kernel
theorem d_CH_mayStand_38 : decode b_CH_mayStand 38 = .ok (.goto 4, 3) := by decide +kernel
theorem d_CH_mayStand_41 : decode b_CH_mayStand 41 = .ok (.iconst 0, 1) := by decide +kernel
theorem d_CH_mayStand_42 : decode b_CH_mayStand 42 = .ok (.ireturn, 1) := by decide +kernel
theorem d_CH_mayStand_43 : decode b_CH_mayStand 43 = .ok (.iload_n 1, 1) := by decide +kernel
theorem d_CH_mayStand_44 : decode b_CH_mayStand 44 = .ok (.tableswitch 113 3 17 #[98, 78, 78, 113, 113, 88, 98, 98, 113, 113, 113, 98, 113, 76, 76], 76) := by decide +kernel
theorem d_CH_mayStand_120 : decode b_CH_mayStand 120 = .ok (.iconst 0, 1) := by decide +kernel
theorem d_CH_mayStand_121 : decode b_CH_mayStand 121 = .ok (.ireturn, 1) := by decide +kernel
theorem d_CH_mayStand_122 : decode b_CH_mayStand 122 = .ok (.aload_n 0, 1) := by decide +kernel
theorem d_CH_mayStand_123 : decode b_CH_mayStand 123 = .ok (.getfield 15, 3) := by decide +kernel
theorem d_CH_mayStand_126 : decode b_CH_mayStand 126 = .ok (.aload_n 0, 1) := by decide +kernel
theorem d_CH_mayStand_127 : decode b_CH_mayStand 127 = .ok (.getfield 25, 3) := by decide +kernel
theorem d_CH_mayStand_130 : decode b_CH_mayStand 130 = .ok (.baload, 1) := by decide +kernel
theorem d_CH_mayStand_131 : decode b_CH_mayStand 131 = .ok (.ireturn, 1) := by decide +kernel
theorem d_CH_mayStand_132 : decode b_CH_mayStand 132 = .ok (.aload_n 0, 1) := by decide +kernel
theorem d_CH_mayStand_133 : decode b_CH_mayStand 133 = .ok (.getfield 19, 3) := by decide +kernel
theorem d_CH_mayStand_136 : decode b_CH_mayStand 136 = .ok (.aload_n 0, 1) := by decide +kernel
theorem d_CH_mayStand_137 : decode b_CH_mayStand 137 = .ok (.getfield 25, 3) := by decide +kernel
theorem d_CH_mayStand_140 : decode b_CH_mayStand 140 = .ok (.baload, 1) := by decide +kernel
theorem d_CH_mayStand_141 : decode b_CH_mayStand 141 = .ok (.ireturn, 1) := by decide +kernel
theorem d_CH_mayStand_142 : decode b_CH_mayStand 142 = .ok (.aload_n 0, 1) := by decide +kernel
theorem d_CH_mayStand_143 : decode b_CH_mayStand 143 = .ok (.getfield 25, 3) := by decide +kernel
theorem d_CH_mayStand_146 : decode b_CH_mayStand 146 = .ok (.bipush 6, 2) := by decide +kernel
theorem d_CH_mayStand_148 : decode b_CH_mayStand 148 = .ok (.if_icmp .ge 7, 3) := by decide +kernel
theorem d_CH_mayStand_151 : decode b_CH_mayStand 151 = .ok (.iconst 1, 1) := by decide +kernel
theorem d_CH_mayStand_152 : decode b_CH_mayStand 152 = .ok (.goto 4, 3) := by decide +kernel
theorem d_CH_mayStand_155 : decode b_CH_mayStand 155 = .ok (.iconst 0, 1) := by decide +kernel
theorem d_CH_mayStand_156 : decode b_CH_mayStand 156 = .ok (.ireturn, 1) := by decide +kernel
theorem d_CH_mayStand_157 : decode b_CH_mayStand 157 = .ok (.iconst 1, 1) := by decide +kernel
theorem d_CH_mayStand_158 : decode b_CH_mayStand 158 = .ok (.ireturn, 1) := by decide +kernel
theorem d_CH_take_0 : decode b_CH_take 0 = .ok (.aload_n 1, 1) := by decide +kernel
theorem d_CH_take_1 : decode b_CH_take 1 = .ok (.getfield 49, 3) := by decide +kernel
theorem d_CH_take_4 : decode b_CH_take 4 = .ok (.iload_n 2, 1) := by decide +kernel
theorem d_CH_take_5 : decode b_CH_take 5 = .ok (.iload_n 2, 1) := by decide +kernel
theorem d_CH_take_6 : decode b_CH_take 6 = .ok (.iastore, 1) := by decide +kernel
theorem d_CH_take_7 : decode b_CH_take 7 = .ok (.aload_n 1, 1) := by decide +kernel
theorem d_CH_take_8 : decode b_CH_take 8 = .ok (.getfield 38, 3) := by decide +kernel
theorem d_CH_take_11 : decode b_CH_take 11 = .ok (.iload_n 2, 1) := by decide +kernel
theorem d_CH_take_12 : decode b_CH_take 12 = .ok (.iaload, 1) := by decide +kernel
theorem d_CH_take_13 : decode b_CH_take 13 = .ok (.tableswitch 176 3 18 #[156, 176, 176, 176, 176, 176, 88, 166, 176, 176, 176, 166, 176, 113, 136, 79], 79) := by decide +kernel
theorem d_CH_take_92 : decode b_CH_take 92 = .ok (.aload_n 0, 1) := by decide +kernel
theorem d_CH_take_93 : decode b_CH_take 93 = .ok (.aload_n 1, 1) := by decide +kernel
theorem d_CH_take_94 : decode b_CH_take 94 = .ok (.iload_n 2, 1) := by decide +kernel
theorem d_CH_take_95 : decode b_CH_take 95 = .ok (.invokevirtual 52, 3) := by decide +kernel
theorem d_CH_take_98 : decode b_CH_take 98 = .ok (.goto 91, 3) := by decide +kernel
theorem d_CH_take_101 : decode b_CH_take 101 = .ok (.aload_n 0, 1) := by decide +kernel
theorem d_CH_take_102 : decode b_CH_take 102 = .ok (.getfield 22, 3) := by decide +kernel
theorem d_CH_take_105 : decode b_CH_take 105 = .ok (.aload_n 0, 1) := by decide +kernel
theorem d_CH_take_106 : decode b_CH_take 106 = .ok (.getfield 25, 3) := by decide +kernel
theorem d_CH_take_109 : decode b_CH_take 109 = .ok (.aload_n 1, 1) := by decide +kernel
theorem d_CH_take_110 : decode b_CH_take 110 = .ok (.getfield 55, 3) := by decide +kernel
theorem d_CH_take_113 : decode b_CH_take 113 = .ok (.iload_n 2, 1) := by decide +kernel
theorem d_CH_take_114 : decode b_CH_take 114 = .ok (.iaload, 1) := by decide +kernel
theorem d_CH_take_115 : decode b_CH_take 115 = .ok (.iastore, 1) := by decide +kernel
theorem d_CH_take_116 : decode b_CH_take 116 = .ok (.aload_n 0, 1) := by decide +kernel
theorem d_CH_take_117 : decode b_CH_take 117 = .ok (.iload_n 2, 1) := by decide +kernel
theorem d_CH_take_118 : decode b_CH_take 118 = .ok (.iconst 0, 1) := by decide +kernel
theorem d_CH_take_119 : decode b_CH_take 119 = .ok (.iconst 0, 1) := by decide +kernel
theorem d_CH_take_120 : decode b_CH_take 120 = .ok (.invokevirtual 29, 3) := by decide +kernel
theorem d_CH_take_123 : decode b_CH_take 123 = .ok (.goto 66, 3) := by decide +kernel
theorem d_CH_take_126 : decode b_CH_take 126 = .ok (.aload_n 0, 1) := by decide +kernel
theorem d_CH_take_127 : decode b_CH_take 127 = .ok (.getfield 22, 3) := by decide +kernel
theorem d_CH_take_130 : decode b_CH_take 130 = .ok (.aload_n 0, 1) := by decide +kernel
theorem d_CH_take_131 : decode b_CH_take 131 = .ok (.getfield 25, 3) := by decide +kernel
theorem d_CH_take_134 : decode b_CH_take 134 = .ok (.dup2, 1) := by decide +kernel
theorem d_CH_take_135 : decode b_CH_take 135 = .ok (.iaload, 1) := by decide +kernel
theorem d_CH_take_136 : decode b_CH_take 136 = .ok (.iconst 1, 1) := by decide +kernel
theorem d_CH_take_137 : decode b_CH_take 137 = .ok (.isub, 1) := by decide +kernel
theorem d_CH_take_138 : decode b_CH_take 138 = .ok (.iastore, 1) := by decide +kernel
theorem d_CH_take_139 : decode b_CH_take 139 = .ok (.aload_n 0, 1) := by decide +kernel
theorem d_CH_take_140 : decode b_CH_take 140 = .ok (.iload_n 2, 1) := by decide +kernel
theorem d_CH_take_141 : decode b_CH_take 141 = .ok (.iconst 0, 1) := by decide +kernel
theorem d_CH_take_142 : decode b_CH_take 142 = .ok (.iconst 1, 1) := by decide +kernel
theorem d_CH_take_143 : decode b_CH_take 143 = .ok (.invokevirtual 29, 3) := by decide +kernel
theorem d_CH_take_146 : decode b_CH_take 146 = .ok (.goto 43, 3) := by decide +kernel
theorem d_CH_take_149 : decode b_CH_take 149 = .ok (.aload_n 0, 1) := by decide +kernel
theorem d_CH_take_150 : decode b_CH_take 150 = .ok (.getfield 22, 3) := by decide +kernel
theorem d_CH_take_153 : decode b_CH_take 153 = .ok (.aload_n 0, 1) := by decide +kernel
theorem d_CH_take_154 : decode b_CH_take 154 = .ok (.getfield 25, 3) := by decide +kernel
theorem d_CH_take_157 : decode b_CH_take 157 = .ok (.iconst 0, 1) := by decide +kernel
theorem d_CH_take_158 : decode b_CH_take 158 = .ok (.iastore, 1) := by decide +kernel
theorem d_CH_take_159 : decode b_CH_take 159 = .ok (.aload_n 0, 1) := by decide +kernel
theorem d_CH_take_160 : decode b_CH_take 160 = .ok (.iload_n 2, 1) := by decide +kernel
theorem d_CH_take_161 : decode b_CH_take 161 = .ok (.iconst 0, 1) := by decide +kernel
theorem d_CH_take_162 : decode b_CH_take 162 = .ok (.iconst 0, 1) := by decide +kernel
theorem d_CH_take_163 : decode b_CH_take 163 = .ok (.invokevirtual 29, 3) := by decide +kernel
theorem d_CH_take_166 : decode b_CH_take 166 = .ok (.goto 23, 3) := by decide +kernel
theorem d_CH_take_169 : decode b_CH_take 169 = .ok (.aload_n 0, 1) := by decide +kernel
theorem d_CH_take_170 : decode b_CH_take 170 = .ok (.iload_n 2, 1) := by decide +kernel
theorem d_CH_take_171 : decode b_CH_take 171 = .ok (.iconst 1, 1) := by decide +kernel
theorem d_CH_take_172 : decode b_CH_take 172 = .ok (.iconst 0, 1) := by decide +kernel
theorem d_CH_take_173 : decode b_CH_take 173 = .ok (.invokevirtual 29, 3) := by decide +kernel
theorem d_CH_take_176 : decode b_CH_take 176 = .ok (.goto 13, 3) := by decide +kernel
theorem d_CH_take_179 : decode b_CH_take 179 = .ok (.aload_n 0, 1) := by decide +kernel
theorem d_CH_take_180 : decode b_CH_take 180 = .ok (.iload_n 2, 1) := by decide +kernel
theorem d_CH_take_181 : decode b_CH_take 181 = .ok (.iconst 0, 1) := by decide +kernel
theorem d_CH_take_182 : decode b_CH_take 182 = .ok (.iconst 0, 1) := by decide +kernel
theorem d_CH_take_183 : decode b_CH_take 183 = .ok (.invokevirtual 29, 3) := by decide +kernel
theorem d_CH_take_186 : decode b_CH_take 186 = .ok (.goto 3, 3) := by decide +kernel
theorem d_CH_take_189 : decode b_CH_take 189 = .ok (.return_, 1) := by decide +kernel
theorem d_CH_open_0 : decode b_CH_open 0 = .ok (.aload_n 0, 1) := by decide +kernel
theorem d_CH_open_1 : decode b_CH_open 1 = .ok (.getfield 25, 3) := by decide +kernel
theorem d_CH_open_4 : decode b_CH_open 4 = .ok (.bipush 6, 2) := by decide +kernel
theorem d_CH_open_6 : decode b_CH_open 6 = .ok (.if_icmp .lt 4, 3) := by decide +kernel
theorem d_CH_open_9 : decode b_CH_open 9 = .ok (.return_, 1) := by decide +kernel
theorem d_CH_open_10 : decode b_CH_open 10 = .ok (.aload_n 0, 1) := by decide +kernel
theorem d_CH_open_11 : decode b_CH_open 11 = .ok (.getfield 15, 3) := by decide +kernel
theorem d_CH_open_14 : decode b_CH_open 14 = .ok (.aload_n 0, 1) := by decide +kernel
theorem d_CH_open_15 : decode b_CH_open 15 = .ok (.getfield 25, 3) := by decide +kernel
theorem d_CH_open_18 : decode b_CH_open 18 = .ok (.iconst 1, 1) := by decide +kernel
theorem d_CH_open_19 : decode b_CH_open 19 = .ok (.iadd, 1) := by decide +kernel
theorem d_CH_open_20 : decode b_CH_open 20 = .ok (.iload_n 2, 1) := by decide +kernel
theorem d_CH_open_21 : decode b_CH_open 21 = .ok (.ifCond .ne 15, 3) := by decide +kernel
theorem d_CH_open_24 : decode b_CH_open 24 = .ok (.aload_n 0, 1) := by decide +kernel
theorem d_CH_open_25 : decode b_CH_open 25 = .ok (.getfield 15, 3) := by decide +kernel
theorem d_CH_open_28 : decode b_CH_open 28 = .ok (.aload_n 0, 1) := by decide +kernel
theorem d_CH_open_29 : decode b_CH_open 29 = .ok (.getfield 25, 3) := by decide +kernel
theorem d_CH_open_32 : decode b_CH_open 32 = .ok (.baload, 1) := by decide +kernel
theorem d_CH_open_33 : decode b_CH_open 33 = .ok (.ifCond .eq 7, 3) := by decide +kernel
theorem d_CH_open_36 : decode b_CH_open 36 = .ok (.iconst 1, 1) := by decide +kernel
theorem d_CH_open_37 : decode b_CH_open 37 = .ok (.goto 4, 3) := by decide +kernel
theorem d_CH_open_40 : decode b_CH_open 40 = .ok (.iconst 0, 1) := by decide +kernel
theorem d_CH_open_41 : decode b_CH_open 41 = .ok (.bastore, 1) := by decide +kernel
theorem d_CH_open_42 : decode b_CH_open 42 = .ok (.aload_n 0, 1) := by decide +kernel
theorem d_CH_open_43 : decode b_CH_open 43 = .ok (.getfield 19, 3) := by decide +kernel
theorem d_CH_open_46 : decode b_CH_open 46 = .ok (.aload_n 0, 1) := by decide +kernel
theorem d_CH_open_47 : decode b_CH_open 47 = .ok (.getfield 25, 3) := by decide +kernel
theorem d_CH_open_50 : decode b_CH_open 50 = .ok (.iconst 1, 1) := by decide +kernel
theorem d_CH_open_51 : decode b_CH_open 51 = .ok (.iadd, 1) := by decide +kernel
theorem d_CH_open_52 : decode b_CH_open 52 = .ok (.iload_n 3, 1) := by decide +kernel
theorem d_CH_open_53 : decode b_CH_open 53 = .ok (.ifCond .ne 15, 3) := by decide +kernel
theorem d_CH_open_56 : decode b_CH_open 56 = .ok (.aload_n 0, 1) := by decide +kernel
theorem d_CH_open_57 : decode b_CH_open 57 = .ok (.getfield 19, 3) := by decide +kernel
theorem d_CH_open_60 : decode b_CH_open 60 = .ok (.aload_n 0, 1) := by decide +kernel
theorem d_CH_open_61 : decode b_CH_open 61 = .ok (.getfield 25, 3) := by decide +kernel
theorem d_CH_open_64 : decode b_CH_open 64 = .ok (.baload, 1) := by decide +kernel
theorem d_CH_open_65 : decode b_CH_open 65 = .ok (.ifCond .eq 7, 3) := by decide +kernel
theorem d_CH_open_68 : decode b_CH_open 68 = .ok (.iconst 1, 1) := by decide +kernel
theorem d_CH_open_69 : decode b_CH_open 69 = .ok (.goto 4, 3) := by decide +kernel
theorem d_CH_open_72 : decode b_CH_open 72 = .ok (.iconst 0, 1) := by decide +kernel
theorem d_CH_open_73 : decode b_CH_open 73 = .ok (.bastore, 1) := by decide +kernel
theorem d_CH_open_74 : decode b_CH_open 74 = .ok (.aload_n 0, 1) := by decide +kernel
theorem d_CH_open_75 : decode b_CH_open 75 = .ok (.dup, 1) := by decide +kernel
theorem d_CH_open_76 : decode b_CH_open 76 = .ok (.getfield 25, 3) := by decide +kernel
theorem d_CH_open_79 : decode b_CH_open 79 = .ok (.iconst 1, 1) := by decide +kernel
theorem d_CH_open_80 : decode b_CH_open 80 = .ok (.iadd, 1) := by decide +kernel
theorem d_CH_open_81 : decode b_CH_open 81 = .ok (.putfield 25, 3) := by decide +kernel
theorem d_CH_open_84 : decode b_CH_open 84 = .ok (.aload_n 0, 1) := by decide +kernel
theorem d_CH_open_85 : decode b_CH_open 85 = .ok (.getfield 9, 3) := by decide +kernel
theorem d_CH_open_88 : decode b_CH_open 88 = .ok (.aload_n 0, 1) := by decide +kernel
theorem d_CH_open_89 : decode b_CH_open 89 = .ok (.getfield 25, 3) := by decide +kernel
theorem d_CH_open_92 : decode b_CH_open 92 = .ok (.iload_n 1, 1) := by decide +kernel
theorem d_CH_open_93 : decode b_CH_open 93 = .ok (.iastore, 1) := by decide +kernel
theorem d_CH_open_94 : decode b_CH_open 94 = .ok (.aload_n 0, 1) := by decide +kernel
theorem d_CH_open_95 : decode b_CH_open 95 = .ok (.getfield 22, 3) := by decide +kernel
theorem d_CH_open_98 : decode b_CH_open 98 = .ok (.aload_n 0, 1) := by decide +kernel
theorem d_CH_open_99 : decode b_CH_open 99 = .ok (.getfield 25, 3) := by decide +kernel
theorem d_CH_open_102 : decode b_CH_open 102 = .ok (.iconst 0, 1) := by decide +kernel
theorem d_CH_open_103 : decode b_CH_open 103 = .ok (.iastore, 1) := by decide +kernel
theorem d_CH_open_104 : decode b_CH_open 104 = .ok (.return_, 1) := by decide +kernel
theorem d_CH_close_0 : decode b_CH_close 0 = .ok (.aload_n 0, 1) := by decide +kernel
theorem d_CH_close_1 : decode b_CH_close 1 = .ok (.getfield 9, 3) := by decide +kernel
theorem d_CH_close_4 : decode b_CH_close 4 = .ok (.aload_n 0, 1) := by decide +kernel
theorem d_CH_close_5 : decode b_CH_close 5 = .ok (.getfield 25, 3) := by decide +kernel
theorem d_CH_close_8 : decode b_CH_close 8 = .ok (.iaload, 1) := by decide +kernel
theorem d_CH_close_9 : decode b_CH_close 9 = .ok (.iconst (-1), 1) := by decide +kernel
theorem d_CH_close_10 : decode b_CH_close 10 = .ok (.if_icmp .eq 18, 3) := by decide +kernel
theorem d_CH_close_13 : decode b_CH_close 13 = .ok (.aload_n 1, 1) := by decide +kernel
theorem d_CH_close_14 : decode b_CH_close 14 = .ok (.getfield 49, 3) := by decide +kernel
theorem d_CH_close_17 : decode b_CH_close 17 = .ok (.aload_n 0, 1) := by decide +kernel
theorem d_CH_close_18 : decode b_CH_close 18 = .ok (.getfield 9, 3) := by decide +kernel
theorem d_CH_close_21 : decode b_CH_close 21 = .ok (.aload_n 0, 1) := by decide +kernel
theorem d_CH_close_22 : decode b_CH_close 22 = .ok (.getfield 25, 3) := by decide +kernel
theorem d_CH_close_25 : decode b_CH_close 25 = .ok (.iaload, 1) := by decide +kernel
theorem d_CH_close_26 : decode b_CH_close 26 = .ok (.iload_n 2, 1) := by decide +kernel
theorem d_CH_close_27 : decode b_CH_close 27 = .ok (.iastore, 1) := by decide +kernel
theorem d_CH_close_28 : decode b_CH_close 28 = .ok (.aload_n 0, 1) := by decide +kernel
theorem d_CH_close_29 : decode b_CH_close 29 = .ok (.dup, 1) := by decide +kernel
theorem d_CH_close_30 : decode b_CH_close 30 = .ok (.getfield 25, 3) := by decide +kernel
theorem d_CH_close_33 : decode b_CH_close 33 = .ok (.iconst 1, 1) := by decide +kernel
theorem d_CH_close_34 : decode b_CH_close 34 = .ok (.isub, 1) := by decide +kernel
theorem d_CH_close_35 : decode b_CH_close 35 = .ok (.putfield 25, 3) := by decide +kernel
theorem d_CH_close_38 : decode b_CH_close 38 = .ok (.return_, 1) := by decide +kernel
theorem d_EV_init_0 : decode b_EV_init 0 = .ok (.aload_n 0, 1) := by decide +kernel
theorem d_EV_init_1 : decode b_EV_init 1 = .ok (.invokespecial 3, 3) := by decide +kernel
theorem d_EV_init_4 : decode b_EV_init 4 = .ok (.aload_n 0, 1) := by decide +kernel
theorem d_EV_init_5 : decode b_EV_init 5 = .ok (.bipush 32, 2) := by decide +kernel
theorem d_EV_init_7 : decode b_EV_init 7 = .ok (.newarray .int, 2) := by decide +kernel
theorem d_EV_init_9 : decode b_EV_init 9 = .ok (.putfield 9, 3) := by decide +kernel
theorem d_EV_init_12 : decode b_EV_init 12 = .ok (.return_, 1) := by decide +kernel
theorem d_EV_note_0 : decode b_EV_note 0 = .ok (.aload_n 0, 1) := by decide +kernel
theorem d_EV_note_1 : decode b_EV_note 1 = .ok (.getfield 9, 3) := by decide +kernel
theorem d_EV_note_4 : decode b_EV_note 4 = .ok (.aload_n 0, 1) := by decide +kernel
theorem d_EV_note_5 : decode b_EV_note 5 = .ok (.getfield 15, 3) := by decide +kernel
theorem d_EV_note_8 : decode b_EV_note 8 = .ok (.bipush 32, 2) := by decide +kernel
theorem d_EV_note_10 : decode b_EV_note 10 = .ok (.invokestatic 19, 3) := by decide +kernel
theorem d_EV_note_13 : decode b_EV_note 13 = .ok (.iload_n 1, 1) := by decide +kernel
theorem d_EV_note_14 : decode b_EV_note 14 = .ok (.iastore, 1) := by decide +kernel
theorem d_EV_note_15 : decode b_EV_note 15 = .ok (.aload_n 0, 1) := by decide +kernel
theorem d_EV_note_16 : decode b_EV_note 16 = .ok (.dup, 1) := by decide +kernel
theorem d_EV_note_17 : decode b_EV_note 17 = .ok (.getfield 15, 3) := by decide +kernel
theorem d_EV_note_20 : decode b_EV_note 20 = .ok (.iconst 1, 1) := by decide +kernel
theorem d_EV_note_21 : decode b_EV_note 21 = .ok (.iadd, 1) := by decide +kernel
theorem d_EV_note_22 : decode b_EV_note 22 = .ok (.putfield 15, 3) := by decide +kernel
theorem d_EV_note_25 : decode b_EV_note 25 = .ok (.return_, 1) := by decide +kernel
theorem d_EV_fromLast_0 : decode b_EV_fromLast 0 = .ok (.iload_n 1, 1) := by decide +kernel
theorem d_EV_fromLast_1 : decode b_EV_fromLast 1 = .ok (.bipush 32, 2) := by decide +kernel
theorem d_EV_fromLast_3 : decode b_EV_fromLast 3 = .ok (.invokestatic 25, 3) := by decide +kernel
theorem d_EV_fromLast_6 : decode b_EV_fromLast 6 = .ok (.ifCond .eq 11, 3) := by decide +kernel
theorem d_EV_fromLast_9 : decode b_EV_fromLast 9 = .ok (.iload_n 1, 1) := by decide +kernel
theorem d_EV_fromLast_10 : decode b_EV_fromLast 10 = .ok (.aload_n 0, 1) := by decide +kernel
theorem d_EV_fromLast_11 : decode b_EV_fromLast 11 = .ok (.getfield 15, 3) := by decide +kernel
theorem d_EV_fromLast_14 : decode b_EV_fromLast 14 = .ok (.if_icmp .lt 5, 3) := by decide +kernel
theorem d_EV_fromLast_17 : decode b_EV_fromLast 17 = .ok (.iconst (-1), 1) := by decide +kernel
theorem d_EV_fromLast_18 : decode b_EV_fromLast 18 = .ok (.ireturn, 1) := by decide +kernel
theorem d_EV_fromLast_19 : decode b_EV_fromLast 19 = .ok (.aload_n 0, 1) := by decide +kernel
theorem d_EV_fromLast_20 : decode b_EV_fromLast 20 = .ok (.getfield 9, 3) := by decide +kernel
theorem d_EV_fromLast_23 : decode b_EV_fromLast 23 = .ok (.aload_n 0, 1) := by decide +kernel
theorem d_EV_fromLast_24 : decode b_EV_fromLast 24 = .ok (.getfield 15, 3) := by decide +kernel
theorem d_EV_fromLast_27 : decode b_EV_fromLast 27 = .ok (.iconst 1, 1) := by decide +kernel
theorem d_EV_fromLast_28 : decode b_EV_fromLast 28 = .ok (.isub, 1) := by decide +kernel
theorem d_EV_fromLast_29 : decode b_EV_fromLast 29 = .ok (.iload_n 1, 1) := by decide +kernel
theorem d_EV_fromLast_30 : decode b_EV_fromLast 30 = .ok (.isub, 1) := by decide +kernel
theorem d_EV_fromLast_31 : decode b_EV_fromLast 31 = .ok (.bipush 32, 2) := by decide +kernel
theorem d_EV_fromLast_33 : decode b_EV_fromLast 33 = .ok (.invokestatic 19, 3) := by decide +kernel
theorem d_EV_fromLast_36 : decode b_EV_fromLast 36 = .ok (.iaload, 1) := by decide +kernel
theorem d_EV_fromLast_37 : decode b_EV_fromLast 37 = .ok (.ireturn, 1) := by decide +kernel
theorem d_FA_init_0 : decode b_FA_init 0 = .ok (.aload_n 0, 1) := by decide +kernel
theorem d_FA_init_1 : decode b_FA_init 1 = .ok (.invokespecial 3, 3) := by decide +kernel
theorem d_FA_init_4 : decode b_FA_init 4 = .ok (.aload_n 0, 1) := by decide +kernel
theorem d_FA_init_5 : decode b_FA_init 5 = .ok (.sipush 301, 3) := by decide +kernel
theorem d_FA_init_8 : decode b_FA_init 8 = .ok (.newarray .int, 2) := by decide +kernel
theorem d_FA_init_10 : decode b_FA_init 10 = .ok (.putfield 9, 3) := by decide +kernel
theorem d_FA_init_13 : decode b_FA_init 13 = .ok (.aload_n 0, 1) := by decide +kernel
theorem d_FA_init_14 : decode b_FA_init 14 = .ok (.sipush 301, 3) := by decide +kernel
theorem d_FA_init_17 : decode b_FA_init 17 = .ok (.newarray .int, 2) := by decide +kernel
theorem d_FA_init_19 : decode b_FA_init 19 = .ok (.putfield 15, 3) := by decide +kernel
theorem d_FA_init_22 : decode b_FA_init 22 = .ok (.return_, 1) := by decide +kernel
theorem d_FA_forget_0 : decode b_FA_forget 0 = .ok (.aload_n 0, 1) := by decide +kernel
theorem d_FA_forget_1 : decode b_FA_forget 1 = .ok (.iconst 0, 1) := by decide +kernel
theorem d_FA_forget_2 : decode b_FA_forget 2 = .ok (.putfield 18, 3) := by decide +kernel
theorem d_FA_forget_5 : decode b_FA_forget 5 = .ok (.return_, 1) := by decide +kernel
theorem d_FA_make_0 : decode b_FA_make 0 = .ok (.aload_n 0, 1) := by decide +kernel
theorem d_FA_make_1 : decode b_FA_make 1 = .ok (.getfield 18, 3) := by decide +kernel
theorem d_FA_make_4 : decode b_FA_make 4 = .ok (.sipush 301, 3) := by decide +kernel
theorem d_FA_make_7 : decode b_FA_make 7 = .ok (.if_icmp .lt 5, 3) := by decide +kernel
theorem d_FA_make_10 : decode b_FA_make 10 = .ok (.iconst (-1), 1) := by decide +kernel
theorem d_FA_make_11 : decode b_FA_make 11 = .ok (.ireturn, 1) := by decide +kernel
theorem d_FA_make_12 : decode b_FA_make 12 = .ok (.aload_n 0, 1) := by decide +kernel
theorem d_FA_make_13 : decode b_FA_make 13 = .ok (.getfield 9, 3) := by decide +kernel
theorem d_FA_make_16 : decode b_FA_make 16 = .ok (.aload_n 0, 1) := by decide +kernel
theorem d_FA_make_17 : decode b_FA_make 17 = .ok (.getfield 18, 3) := by decide +kernel
theorem d_FA_make_20 : decode b_FA_make 20 = .ok (.iload_n 1, 1) := by decide +kernel
theorem d_FA_make_21 : decode b_FA_make 21 = .ok (.iastore, 1) := by decide +kernel
theorem d_FA_make_22 : decode b_FA_make 22 = .ok (.aload_n 0, 1) := by decide +kernel
theorem d_FA_make_23 : decode b_FA_make 23 = .ok (.getfield 15, 3) := by decide +kernel
theorem d_FA_make_26 : decode b_FA_make 26 = .ok (.aload_n 0, 1) := by decide +kernel
theorem d_FA_make_27 : decode b_FA_make 27 = .ok (.getfield 18, 3) := by decide +kernel
theorem d_FA_make_30 : decode b_FA_make 30 = .ok (.iload_n 2, 1) := by decide +kernel
theorem d_FA_make_31 : decode b_FA_make 31 = .ok (.iastore, 1) := by decide +kernel
theorem d_FA_make_32 : decode b_FA_make 32 = .ok (.aload_n 0, 1) := by decide +kernel
theorem d_FA_make_33 : decode b_FA_make 33 = .ok (.dup, 1) := by decide +kernel
theorem d_FA_make_34 : decode b_FA_make 34 = .ok (.getfield 18, 3) := by decide +kernel
theorem d_FA_make_37 : decode b_FA_make 37 = .ok (.iconst 1, 1) := by decide +kernel
theorem d_FA_make_38 : decode b_FA_make 38 = .ok (.iadd, 1) := by decide +kernel
theorem d_FA_make_39 : decode b_FA_make 39 = .ok (.putfield 18, 3) := by decide +kernel
theorem d_FA_make_42 : decode b_FA_make 42 = .ok (.aload_n 0, 1) := by decide +kernel
theorem d_FA_make_43 : decode b_FA_make 43 = .ok (.getfield 18, 3) := by decide +kernel
theorem d_FA_make_46 : decode b_FA_make 46 = .ok (.iconst 1, 1) := by decide +kernel
theorem d_FA_make_47 : decode b_FA_make 47 = .ok (.isub, 1) := by decide +kernel
theorem d_FA_make_48 : decode b_FA_make 48 = .ok (.ireturn, 1) := by decide +kernel
theorem d_FA_kindOf_0 : decode b_FA_kindOf 0 = .ok (.iload_n 1, 1) := by decide +kernel
theorem d_FA_kindOf_1 : decode b_FA_kindOf 1 = .ok (.aload_n 0, 1) := by decide +kernel
theorem d_FA_kindOf_2 : decode b_FA_kindOf 2 = .ok (.getfield 18, 3) := by decide +kernel
theorem d_FA_kindOf_5 : decode b_FA_kindOf 5 = .ok (.invokestatic 22, 3) := by decide +kernel
theorem d_FA_kindOf_8 : decode b_FA_kindOf 8 = .ok (.ifCond .eq 12, 3) := by decide +kernel
theorem d_FA_kindOf_11 : decode b_FA_kindOf 11 = .ok (.aload_n 0, 1) := by decide +kernel
theorem d_FA_kindOf_12 : decode b_FA_kindOf 12 = .ok (.getfield 9, 3) := by decide +kernel
theorem d_FA_kindOf_15 : decode b_FA_kindOf 15 = .ok (.iload_n 1, 1) := by decide +kernel
theorem d_FA_kindOf_16 : decode b_FA_kindOf 16 = .ok (.iaload, 1) := by decide +kernel
theorem d_FA_kindOf_17 : decode b_FA_kindOf 17 = .ok (.goto 4, 3) := by decide +kernel
theorem d_FA_kindOf_20 : decode b_FA_kindOf 20 = .ok (.iconst (-1), 1) := by decide +kernel
theorem d_FA_kindOf_21 : decode b_FA_kindOf 21 = .ok (.ireturn, 1) := by decide +kernel
theorem d_FA_causeOf_0 : decode b_FA_causeOf 0 = .ok (.iload_n 1, 1) := by decide +kernel
theorem d_FA_causeOf_1 : decode b_FA_causeOf 1 = .ok (.istore_n 3, 1) := by decide +kernel
theorem d_FA_causeOf_2 : decode b_FA_causeOf 2 = .ok (.iconst 0, 1) := by decide +kernel
theorem d_FA_causeOf_3 : decode b_FA_causeOf 3 = .ok (.istore 4, 2) := by decide +kernel
theorem d_FA_causeOf_5 : decode b_FA_causeOf 5 = .ok (.iload 4, 2) := by decide +kernel
theorem d_FA_causeOf_7 : decode b_FA_causeOf 7 = .ok (.iload_n 2, 1) := by decide +kernel
theorem d_FA_causeOf_8 : decode b_FA_causeOf 8 = .ok (.if_icmp .ge 27, 3) := by decide +kernel
theorem d_FA_causeOf_11 : decode b_FA_causeOf 11 = .ok (.iload_n 3, 1) := by decide +kernel
theorem d_FA_causeOf_12 : decode b_FA_causeOf 12 = .ok (.aload_n 0, 1) := by decide +kernel
theorem d_FA_causeOf_13 : decode b_FA_causeOf 13 = .ok (.getfield 18, 3) := by decide +kernel
theorem d_FA_causeOf_16 : decode b_FA_causeOf 16 = .ok (.invokestatic 22, 3) := by decide +kernel
theorem d_FA_causeOf_19 : decode b_FA_causeOf 19 = .ok (.ifCond .eq 16, 3) := by decide +kernel
theorem d_FA_causeOf_22 : decode b_FA_causeOf 22 = .ok (.aload_n 0, 1) := by decide +kernel
theorem d_FA_causeOf_23 : decode b_FA_causeOf 23 = .ok (.getfield 15, 3) := by decide +kernel
theorem d_FA_causeOf_26 : decode b_FA_causeOf 26 = .ok (.iload_n 3, 1) := by decide +kernel
theorem d_FA_causeOf_27 : decode b_FA_causeOf 27 = .ok (.iaload, 1) := by decide +kernel
theorem d_FA_causeOf_28 : decode b_FA_causeOf 28 = .ok (.istore_n 3, 1) := by decide +kernel
theorem d_FA_causeOf_29 : decode b_FA_causeOf 29 = .ok (.iinc 4 1, 3) := by decide +kernel
theorem d_FA_causeOf_32 : decode b_FA_causeOf 32 = .ok (.goto (-27), 3) := by decide +kernel
theorem d_FA_causeOf_35 : decode b_FA_causeOf 35 = .ok (.iload_n 3, 1) := by decide +kernel
theorem d_FA_causeOf_36 : decode b_FA_causeOf 36 = .ok (.ireturn, 1) := by decide +kernel
theorem d_FR_init_0 : decode b_FR_init 0 = .ok (.aload_n 0, 1) := by decide +kernel
theorem d_FR_init_1 : decode b_FR_init 1 = .ok (.invokespecial 3, 3) := by decide +kernel
theorem d_FR_init_4 : decode b_FR_init 4 = .ok (.aload_n 0, 1) := by decide +kernel
theorem d_FR_init_5 : decode b_FR_init 5 = .ok (.iconst 3, 1) := by decide +kernel
theorem d_FR_init_6 : decode b_FR_init 6 = .ok (.newarray .int, 2) := by decide +kernel
theorem d_FR_init_8 : decode b_FR_init 8 = .ok (.putfield 9, 3) := by decide +kernel
theorem d_FR_init_11 : decode b_FR_init 11 = .ok (.return_, 1) := by decide +kernel
theorem d_FR_begin_0 : decode b_FR_begin 0 = .ok (.aload_n 0, 1) := by decide +kernel
theorem d_FR_begin_1 : decode b_FR_begin 1 = .ok (.iload_n 1, 1) := by decide +kernel
theorem d_FR_begin_2 : decode b_FR_begin 2 = .ok (.putfield 15, 3) := by decide +kernel
theorem d_FR_begin_5 : decode b_FR_begin 5 = .ok (.aload_n 0, 1) := by decide +kernel
theorem d_FR_begin_6 : decode b_FR_begin 6 = .ok (.iload_n 2, 1) := by decide +kernel
theorem d_FR_begin_7 : decode b_FR_begin 7 = .ok (.putfield 19, 3) := by decide +kernel
theorem d_FR_begin_10 : decode b_FR_begin 10 = .ok (.aload_n 0, 1) := by decide +kernel
theorem d_FR_begin_11 : decode b_FR_begin 11 = .ok (.iconst 0, 1) := by decide +kernel
theorem d_FR_begin_12 : decode b_FR_begin 12 = .ok (.putfield 22, 3) := by decide +kernel
theorem d_FR_begin_15 : decode b_FR_begin 15 = .ok (.aload_n 0, 1) := by decide +kernel
theorem d_FR_begin_16 : decode b_FR_begin 16 = .ok (.iconst (-1), 1) := by decide +kernel
theorem d_FR_begin_17 : decode b_FR_begin 17 = .ok (.putfield 25, 3) := by decide +kernel
theorem d_FR_begin_20 : decode b_FR_begin 20 = .ok (.iconst 0, 1) := by decide +kernel
theorem d_FR_begin_21 : decode b_FR_begin 21 = .ok (.istore_n 3, 1) := by decide +kernel
theorem d_FR_begin_22 : decode b_FR_begin 22 = .ok (.iload_n 3, 1) := by decide +kernel
theorem d_FR_begin_23 : decode b_FR_begin 23 = .ok (.iconst 3, 1) := by decide +kernel
theorem d_FR_begin_24 : decode b_FR_begin 24 = .ok (.if_icmp .ge 16, 3) := by decide +kernel
theorem d_FR_begin_27 : decode b_FR_begin 27 = .ok (.aload_n 0, 1) := by decide +kernel
theorem d_FR_begin_28 : decode b_FR_begin 28 = .ok (.getfield 9, 3) := by decide +kernel
theorem d_FR_begin_31 : decode b_FR_begin 31 = .ok (.iload_n 3, 1) := by decide +kernel
theorem d_FR_begin_32 : decode b_FR_begin 32 = .ok (.iconst 0, 1) := by decide +kernel
theorem d_FR_begin_33 : decode b_FR_begin 33 = .ok (.iastore, 1) := by decide +kernel
theorem d_FR_begin_34 : decode b_FR_begin 34 = .ok (.iinc 3 1, 3) := by decide +kernel
theorem d_FR_begin_37 : decode b_FR_begin 37 = .ok (.goto (-15), 3) := by decide +kernel
theorem d_FR_begin_40 : decode b_FR_begin 40 = .ok (.return_, 1) := by decide +kernel
theorem d_LO_init_0 : decode b_LO_init 0 = .ok (.aload_n 0, 1) := by decide +kernel
theorem d_LO_init_1 : decode b_LO_init 1 = .ok (.invokespecial 3, 3) := by decide +kernel
theorem d_LO_init_4 : decode b_LO_init 4 = .ok (.aload_n 0, 1) := by decide +kernel
theorem d_LO_init_5 : decode b_LO_init 5 = .ok (.iconst 3, 1) := by decide +kernel
theorem d_LO_init_6 : decode b_LO_init 6 = .ok (.newarray .int, 2) := by decide +kernel
theorem d_LO_init_8 : decode b_LO_init 8 = .ok (.putfield 9, 3) := by decide +kernel
theorem d_LO_init_11 : decode b_LO_init 11 = .ok (.return_, 1) := by decide +kernel
theorem d_LO_free_0 : decode b_LO_free 0 = .ok (.iconst 0, 1) := by decide +kernel
theorem d_LO_free_1 : decode b_LO_free 1 = .ok (.istore_n 1, 1) := by decide +kernel
theorem d_LO_free_2 : decode b_LO_free 2 = .ok (.iload_n 1, 1) := by decide +kernel
theorem d_LO_free_3 : decode b_LO_free 3 = .ok (.iconst 3, 1) := by decide +kernel
theorem d_LO_free_4 : decode b_LO_free 4 = .ok (.if_icmp .ge 16, 3) := by decide +kernel
theorem d_LO_free_7 : decode b_LO_free 7 = .ok (.aload_n 0, 1) := by decide +kernel
theorem d_LO_free_8 : decode b_LO_free 8 = .ok (.getfield 9, 3) := by decide +kernel
theorem d_LO_free_11 : decode b_LO_free 11 = .ok (.iload_n 1, 1) := by decide +kernel
theorem d_LO_free_12 : decode b_LO_free 12 = .ok (.iconst 0, 1) := by decide +kernel
theorem d_LO_free_13 : decode b_LO_free 13 = .ok (.iastore, 1) := by decide +kernel
theorem d_LO_free_14 : decode b_LO_free 14 = .ok (.iinc 1 1, 3) := by decide +kernel
theorem d_LO_free_17 : decode b_LO_free 17 = .ok (.goto (-15), 3) := by decide +kernel
theorem d_LO_free_20 : decode b_LO_free 20 = .ok (.aload_n 0, 1) := by decide +kernel
theorem d_LO_free_21 : decode b_LO_free 21 = .ok (.iconst 0, 1) := by decide +kernel
theorem d_LO_free_22 : decode b_LO_free 22 = .ok (.putfield 15, 3) := by decide +kernel
theorem d_LO_free_25 : decode b_LO_free 25 = .ok (.aload_n 0, 1) := by decide +kernel
theorem d_LO_free_26 : decode b_LO_free 26 = .ok (.iconst 0, 1) := by decide +kernel
theorem d_LO_free_27 : decode b_LO_free 27 = .ok (.putfield 19, 3) := by decide +kernel
theorem d_LO_free_30 : decode b_LO_free 30 = .ok (.return_, 1) := by decide +kernel
theorem d_LO_hold_0 : decode b_LO_hold 0 = .ok (.aload_n 0, 1) := by decide +kernel
theorem d_LO_hold_1 : decode b_LO_hold 1 = .ok (.getfield 9, 3) := by decide +kernel
theorem d_LO_hold_4 : decode b_LO_hold 4 = .ok (.iload_n 1, 1) := by decide +kernel
theorem d_LO_hold_5 : decode b_LO_hold 5 = .ok (.dup2, 1) := by decide +kernel
theorem d_LO_hold_6 : decode b_LO_hold 6 = .ok (.iaload, 1) := by decide +kernel
theorem d_LO_hold_7 : decode b_LO_hold 7 = .ok (.iconst 1, 1) := by decide +kernel
theorem d_LO_hold_8 : decode b_LO_hold 8 = .ok (.iadd, 1) := by decide +kernel
theorem d_LO_hold_9 : decode b_LO_hold 9 = .ok (.iastore, 1) := by decide +kernel
theorem d_LO_hold_10 : decode b_LO_hold 10 = .ok (.aload_n 0, 1) := by decide +kernel
theorem d_LO_hold_11 : decode b_LO_hold 11 = .ok (.dup, 1) := by decide +kernel
theorem d_LO_hold_12 : decode b_LO_hold 12 = .ok (.getfield 15, 3) := by decide +kernel
theorem d_LO_hold_15 : decode b_LO_hold 15 = .ok (.iconst 1, 1) := by decide +kernel
theorem d_LO_hold_16 : decode b_LO_hold 16 = .ok (.iadd, 1) := by decide +kernel
theorem d_LO_hold_17 : decode b_LO_hold 17 = .ok (.putfield 15, 3) := by decide +kernel
theorem d_LO_hold_20 : decode b_LO_hold 20 = .ok (.aload_n 0, 1) := by decide +kernel
theorem d_LO_hold_21 : decode b_LO_hold 21 = .ok (.aload_n 0, 1) := by decide +kernel
theorem d_LO_hold_22 : decode b_LO_hold 22 = .ok (.getfield 19, 3) := by decide +kernel
theorem d_LO_hold_25 : decode b_LO_hold 25 = .ok (.aload_n 0, 1) := by decide +kernel
theorem d_LO_hold_26 : decode b_LO_hold 26 = .ok (.getfield 15, 3) := by decide +kernel
theorem d_LO_hold_29 : decode b_LO_hold 29 = .ok (.invokestatic 22, 3) := by decide +kernel
theorem d_LO_hold_32 : decode b_LO_hold 32 = .ok (.putfield 19, 3) := by decide +kernel
theorem d_LO_hold_35 : decode b_LO_hold 35 = .ok (.return_, 1) := by decide +kernel
theorem d_LO_release_0 : decode b_LO_release 0 = .ok (.aload_n 0, 1) := by decide +kernel
theorem d_LO_release_1 : decode b_LO_release 1 = .ok (.getfield 9, 3) := by decide +kernel
theorem d_LO_release_4 : decode b_LO_release 4 = .ok (.iload_n 1, 1) := by decide +kernel
theorem d_LO_release_5 : decode b_LO_release 5 = .ok (.dup2, 1) := by decide +kernel
theorem d_LO_release_6 : decode b_LO_release 6 = .ok (.iaload, 1) := by decide +kernel
theorem d_LO_release_7 : decode b_LO_release 7 = .ok (.iload_n 2, 1) := by decide +kernel
theorem d_LO_release_8 : decode b_LO_release 8 = .ok (.isub, 1) := by decide +kernel
theorem d_LO_release_9 : decode b_LO_release 9 = .ok (.iastore, 1) := by decide +kernel
theorem d_LO_release_10 : decode b_LO_release 10 = .ok (.aload_n 0, 1) := by decide +kernel
theorem d_LO_release_11 : decode b_LO_release 11 = .ok (.dup, 1) := by decide +kernel
theorem d_LO_release_12 : decode b_LO_release 12 = .ok (.getfield 15, 3) := by decide +kernel
theorem d_LO_release_15 : decode b_LO_release 15 = .ok (.iload_n 2, 1) := by decide +kernel
theorem d_LO_release_16 : decode b_LO_release 16 = .ok (.isub, 1) := by decide +kernel
theorem d_LO_release_17 : decode b_LO_release 17 = .ok (.putfield 15, 3) := by decide +kernel
theorem d_LO_release_20 : decode b_LO_release 20 = .ok (.return_, 1) := by decide +kernel
theorem d_LO_isHeld_0 : decode b_LO_isHeld 0 = .ok (.aload_n 0, 1) := by decide +kernel
theorem d_LO_isHeld_1 : decode b_LO_isHeld 1 = .ok (.getfield 9, 3) := by decide +kernel
theorem d_LO_isHeld_4 : decode b_LO_isHeld 4 = .ok (.iload_n 1, 1) := by decide +kernel
theorem d_LO_isHeld_5 : decode b_LO_isHeld 5 = .ok (.iaload, 1) := by decide +kernel
theorem d_LO_isHeld_6 : decode b_LO_isHeld 6 = .ok (.ifCond .le 7, 3) := by decide +kernel
theorem d_LO_isHeld_9 : decode b_LO_isHeld 9 = .ok (.iconst 1, 1) := by decide +kernel
theorem d_LO_isHeld_10 : decode b_LO_isHeld 10 = .ok (.goto 4, 3) := by decide +kernel
theorem d_LO_isHeld_13 : decode b_LO_isHeld 13 = .ok (.iconst 0, 1) := by decide +kernel
theorem d_LO_isHeld_14 : decode b_LO_isHeld 14 = .ok (.ireturn, 1) := by decide +kernel
theorem d_TE_init_0 : decode b_TE_init 0 = .ok (.aload_n 0, 1) := by decide +kernel
theorem d_TE_init_1 : decode b_TE_init 1 = .ok (.invokespecial 3, 3) := by decide +kernel
theorem d_TE_init_4 : decode b_TE_init 4 = .ok (.aload_n 0, 1) := by decide +kernel
theorem d_TE_init_5 : decode b_TE_init 5 = .ok (.bipush 32, 2) := by decide +kernel
theorem d_TE_init_7 : decode b_TE_init 7 = .ok (.newarray .int, 2) := by decide +kernel
theorem d_TE_init_9 : decode b_TE_init 9 = .ok (.putfield 9, 3) := by decide +kernel
theorem d_TE_init_12 : decode b_TE_init 12 = .ok (.aload_n 0, 1) := by decide +kernel
theorem d_TE_init_13 : decode b_TE_init 13 = .ok (.bipush 32, 2) := by decide +kernel
theorem d_TE_init_15 : decode b_TE_init 15 = .ok (.newarray .int, 2) := by decide +kernel
theorem d_TE_init_17 : decode b_TE_init 17 = .ok (.putfield 15, 3) := by decide +kernel
theorem d_TE_init_20 : decode b_TE_init 20 = .ok (.aload_n 0, 1) := by decide +kernel
theorem d_TE_init_21 : decode b_TE_init 21 = .ok (.bipush 32, 2) := by decide +kernel
theorem d_TE_init_23 : decode b_TE_init 23 = .ok (.newarray .int, 2) := by decide +kernel
theorem d_TE_init_25 : decode b_TE_init 25 = .ok (.putfield 18, 3) := by decide +kernel
theorem d_TE_init_28 : decode b_TE_init 28 = .ok (.return_, 1) := by decide +kernel
theorem d_TE_append_0 : decode b_TE_append 0 = .ok (.aload_n 0, 1) := by decide +kernel
theorem d_TE_append_1 : decode b_TE_append 1 = .ok (.getfield 21, 3) := by decide +kernel
theorem d_TE_append_4 : decode b_TE_append 4 = .ok (.bipush 32, 2) := by decide +kernel
theorem d_TE_append_6 : decode b_TE_append 6 = .ok (.if_icmp .lt 5, 3) := by decide +kernel
theorem d_TE_append_9 : decode b_TE_append 9 = .ok (.iconst 0, 1) := by decide +kernel
theorem d_TE_append_10 : decode b_TE_append 10 = .ok (.ireturn, 1) := by decide +kernel
theorem d_TE_append_11 : decode b_TE_append 11 = .ok (.aload_n 0, 1) := by decide +kernel
theorem d_TE_append_12 : decode b_TE_append 12 = .ok (.getfield 9, 3) := by decide +kernel
theorem d_TE_append_15 : decode b_TE_append 15 = .ok (.aload_n 0, 1) := by decide +kernel
theorem d_TE_append_16 : decode b_TE_append 16 = .ok (.getfield 21, 3) := by decide +kernel
theorem d_TE_append_19 : decode b_TE_append 19 = .ok (.iload_n 1, 1) := by decide +kernel
theorem d_TE_append_20 : decode b_TE_append 20 = .ok (.iastore, 1) := by decide +kernel
theorem d_TE_append_21 : decode b_TE_append 21 = .ok (.aload_n 0, 1) := by decide +kernel
theorem d_TE_append_22 : decode b_TE_append 22 = .ok (.getfield 15, 3) := by decide +kernel
theorem d_TE_append_25 : decode b_TE_append 25 = .ok (.aload_n 0, 1) := by decide +kernel
theorem d_TE_append_26 : decode b_TE_append 26 = .ok (.getfield 21, 3) := by decide +kernel
theorem d_TE_append_29 : decode b_TE_append 29 = .ok (.iload_n 2, 1) := by decide +kernel
theorem d_TE_append_30 : decode b_TE_append 30 = .ok (.iastore, 1) := by decide +kernel
theorem d_TE_append_31 : decode b_TE_append 31 = .ok (.aload_n 0, 1) := by decide +kernel
theorem d_TE_append_32 : decode b_TE_append 32 = .ok (.dup, 1) := by decide +kernel
theorem d_TE_append_33 : decode b_TE_append 33 = .ok (.getfield 21, 3) := by decide +kernel
theorem d_TE_append_36 : decode b_TE_append 36 = .ok (.iconst 1, 1) := by decide +kernel
theorem d_TE_append_37 : decode b_TE_append 37 = .ok (.iadd, 1) := by decide +kernel
theorem d_TE_append_38 : decode b_TE_append 38 = .ok (.putfield 21, 3) := by decide +kernel
theorem d_TE_append_41 : decode b_TE_append 41 = .ok (.iconst 1, 1) := by decide +kernel
theorem d_TE_append_42 : decode b_TE_append 42 = .ok (.ireturn, 1) := by decide +kernel
theorem d_TE_clear_0 : decode b_TE_clear 0 = .ok (.aload_n 0, 1) := by decide +kernel
theorem d_TE_clear_1 : decode b_TE_clear 1 = .ok (.getfield 21, 3) := by decide +kernel
theorem d_TE_clear_4 : decode b_TE_clear 4 = .ok (.istore_n 1, 1) := by decide +kernel
theorem d_TE_clear_5 : decode b_TE_clear 5 = .ok (.aload_n 0, 1) := by decide +kernel
theorem d_TE_clear_6 : decode b_TE_clear 6 = .ok (.iconst 0, 1) := by decide +kernel
theorem d_TE_clear_7 : decode b_TE_clear 7 = .ok (.putfield 21, 3) := by decide +kernel
theorem d_TE_clear_10 : decode b_TE_clear 10 = .ok (.iload_n 1, 1) := by decide +kernel
theorem d_TE_clear_11 : decode b_TE_clear 11 = .ok (.ireturn, 1) := by decide +kernel
theorem d_TE_catchesOf_0 : decode b_TE_catchesOf 0 = .ok (.aload_n 0, 1) := by decide +kernel
theorem d_TE_catchesOf_1 : decode b_TE_catchesOf 1 = .ok (.getfield 9, 3) := by decide +kernel
theorem d_TE_catchesOf_4 : decode b_TE_catchesOf 4 = .ok (.iload_n 1, 1) := by decide +kernel
theorem d_TE_catchesOf_5 : decode b_TE_catchesOf 5 = .ok (.iaload, 1) := by decide +kernel
theorem d_TE_catchesOf_6 : decode b_TE_catchesOf 6 = .ok (.bipush 9, 2) := by decide +kernel
theorem d_TE_catchesOf_8 : decode b_TE_catchesOf 8 = .ok (.if_icmp .ne 14, 3) := by decide +kernel
theorem d_TE_catchesOf_11 : decode b_TE_catchesOf 11 = .ok (.aload_n 0, 1) := by decide +kernel
theorem d_TE_catchesOf_12 : decode b_TE_catchesOf 12 = .ok (.getfield 15, 3) := by decide +kernel
theorem d_TE_catchesOf_15 : decode b_TE_catchesOf 15 = .ok (.iload_n 1, 1) := by decide +kernel
theorem d_TE_catchesOf_16 : decode b_TE_catchesOf 16 = .ok (.iaload, 1) := by decide +kernel
theorem d_TE_catchesOf_17 : decode b_TE_catchesOf 17 = .ok (.iconst 3, 1) := by decide +kernel
theorem d_TE_catchesOf_18 : decode b_TE_catchesOf 18 = .ok (.iand, 1) := by decide +kernel
theorem d_TE_catchesOf_19 : decode b_TE_catchesOf 19 = .ok (.goto 4, 3) := by decide +kernel
theorem d_TE_catchesOf_22 : decode b_TE_catchesOf 22 = .ok (.iconst 0, 1) := by decide +kernel
theorem d_TE_catchesOf_23 : decode b_TE_catchesOf 23 = .ok (.ireturn, 1) := by decide +kernel
theorem d_TE_hasLast_0 : decode b_TE_hasLast 0 = .ok (.aload_n 0, 1) := by decide +kernel
theorem d_TE_hasLast_1 : decode b_TE_hasLast 1 = .ok (.getfield 9, 3) := by decide +kernel
theorem d_TE_hasLast_4 : decode b_TE_hasLast 4 = .ok (.iload_n 1, 1) := by decide +kernel
theorem d_TE_hasLast_5 : decode b_TE_hasLast 5 = .ok (.iaload, 1) := by decide +kernel
theorem d_TE_hasLast_6 : decode b_TE_hasLast 6 = .ok (.bipush 9, 2) := by decide +kernel
theorem d_TE_hasLast_8 : decode b_TE_hasLast 8 = .ok (.if_icmp .ne 18, 3) := by decide +kernel
theorem d_TE_hasLast_11 : decode b_TE_hasLast 11 = .ok (.aload_n 0, 1) := by decide +kernel
theorem d_TE_hasLast_12 : decode b_TE_hasLast 12 = .ok (.getfield 15, 3) := by decide +kernel
theorem d_TE_hasLast_15 : decode b_TE_hasLast 15 = .ok (.iload_n 1, 1) := by decide +kernel
theorem d_TE_hasLast_16 : decode b_TE_hasLast 16 = .ok (.iaload, 1) := by decide +kernel
theorem d_TE_hasLast_17 : decode b_TE_hasLast 17 = .ok (.iconst 4, 1) := by decide +kernel
theorem d_TE_hasLast_18 : decode b_TE_hasLast 18 = .ok (.iand, 1) := by decide +kernel
theorem d_TE_hasLast_19 : decode b_TE_hasLast 19 = .ok (.ifCond .eq 7, 3) := by decide +kernel
theorem d_TE_hasLast_22 : decode b_TE_hasLast 22 = .ok (.iconst 1, 1) := by decide +kernel
theorem d_TE_hasLast_23 : decode b_TE_hasLast 23 = .ok (.goto 4, 3) := by decide +kernel
theorem d_TE_hasLast_26 : decode b_TE_hasLast 26 = .ok (.iconst 0, 1) := by decide +kernel
theorem d_TE_hasLast_27 : decode b_TE_hasLast 27 = .ok (.ireturn, 1) := by decide +kernel
theorem d_TE_behind_0 : decode b_TE_behind 0 = .ok (.aload_n 0, 1) := by decide +kernel
theorem d_TE_behind_1 : decode b_TE_behind 1 = .ok (.iload_n 1, 1) := by decide +kernel
theorem d_TE_behind_2 : decode b_TE_behind 2 = .ok (.invokevirtual 25, 3) := by decide +kernel
theorem d_TE_behind_5 : decode b_TE_behind 5 = .ok (.aload_n 0, 1) := by decide +kernel
theorem d_TE_behind_6 : decode b_TE_behind 6 = .ok (.iload_n 1, 1) := by decide +kernel
theorem d_TE_behind_7 : decode b_TE_behind 7 = .ok (.invokevirtual 29, 3) := by decide +kernel
theorem d_TE_behind_10 : decode b_TE_behind 10 = .ok (.ifCond .eq 7, 3) := by decide +kernel
theorem d_TE_behind_13 : decode b_TE_behind 13 = .ok (.iconst 1, 1) := by decide +kernel
theorem d_TE_behind_14 : decode b_TE_behind 14 = .ok (.goto 4, 3) := by decide +kernel
theorem d_TE_behind_17 : decode b_TE_behind 17 = .ok (.iconst 0, 1) := by decide +kernel
theorem d_TE_behind_18 : decode b_TE_behind 18 = .ok (.iadd, 1) := by decide +kernel
theorem d_TE_behind_19 : decode b_TE_behind 19 = .ok (.istore_n 2, 1) := by decide +kernel
theorem d_TE_behind_20 : decode b_TE_behind 20 = .ok (.aload_n 0, 1) := by decide +kernel
theorem d_TE_behind_21 : decode b_TE_behind 21 = .ok (.getfield 18, 3) := by decide +kernel
theorem d_TE_behind_24 : decode b_TE_behind 24 = .ok (.iload_n 1, 1) := by decide +kernel
theorem d_TE_behind_25 : decode b_TE_behind 25 = .ok (.iaload, 1) := by decide +kernel
theorem d_TE_behind_26 : decode b_TE_behind 26 = .ok (.istore_n 3, 1) := by decide +kernel
theorem d_TE_behind_27 : decode b_TE_behind 27 = .ok (.iconst 0, 1) := by decide +kernel
theorem d_TE_behind_28 : decode b_TE_behind 28 = .ok (.istore 4, 2) := by decide +kernel
theorem d_TE_behind_30 : decode b_TE_behind 30 = .ok (.iload 4, 2) := by decide +kernel
theorem d_TE_behind_32 : decode b_TE_behind 32 = .ok (.iload_n 2, 1) := by decide +kernel
theorem d_TE_behind_33 : decode b_TE_behind 33 = .ok (.if_icmp .ge 28, 3) := by decide +kernel
theorem d_TE_behind_36 : decode b_TE_behind 36 = .ok (.iload_n 3, 1) := by decide +kernel
theorem d_TE_behind_37 : decode b_TE_behind 37 = .ok (.iconst 1, 1) := by decide +kernel
theorem d_TE_behind_38 : decode b_TE_behind 38 = .ok (.iadd, 1) := by decide +kernel
theorem d_TE_behind_39 : decode b_TE_behind 39 = .ok (.aload_n 0, 1) := by decide +kernel
theorem d_TE_behind_40 : decode b_TE_behind 40 = .ok (.getfield 21, 3) := by decide +kernel
theorem d_TE_behind_43 : decode b_TE_behind 43 = .ok (.if_icmp .ge 18, 3) := by decide +kernel
theorem d_TE_behind_46 : decode b_TE_behind 46 = .ok (.aload_n 0, 1) := by decide +kernel
theorem d_TE_behind_47 : decode b_TE_behind 47 = .ok (.getfield 18, 3) := by decide +kernel
theorem d_TE_behind_50 : decode b_TE_behind 50 = .ok (.iload_n 3, 1) := by decide +kernel
theorem d_TE_behind_51 : decode b_TE_behind 51 = .ok (.iconst 1, 1) := by decide +kernel
theorem d_TE_behind_52 : decode b_TE_behind 52 = .ok (.iadd, 1) := by decide +kernel
theorem d_TE_behind_53 : decode b_TE_behind 53 = .ok (.iaload, 1) := by decide +kernel
theorem d_TE_behind_54 : decode b_TE_behind 54 = .ok (.istore_n 3, 1) := by decide +kernel
theorem d_TE_behind_55 : decode b_TE_behind 55 = .ok (.iinc 4 1, 3) := by decide +kernel
theorem d_TE_behind_58 : decode b_TE_behind 58 = .ok (.goto (-28), 3) := by decide +kernel
theorem d_TE_behind_61 : decode b_TE_behind 61 = .ok (.iload_n 3, 1) := by decide +kernel
theorem d_TE_behind_62 : decode b_TE_behind 62 = .ok (.iconst 1, 1) := by decide +kernel
theorem d_TE_behind_63 : decode b_TE_behind 63 = .ok (.iadd, 1) := by decide +kernel
theorem d_TE_behind_64 : decode b_TE_behind 64 = .ok (.ireturn, 1) := by decide +kernel
