theorem dX0_init_0 : decode cX0_init 0 = .ok (.aload_n 0, 1) := by decide +kernel
theorem dX0_init_1 : decode cX0_init 1 = .ok (.invokespecial 3, 3) := by decide +kernel
theorem dX0_init_4 : decode cX0_init 4 = .ok (.aload_n 0, 1) := by decide +kernel
theorem dX0_init_5 : decode cX0_init 5 = .ok (.iconst (-1), 1) := by decide +kernel
theorem dX0_init_6 : decode cX0_init 6 = .ok (.putfield 9, 3) := by decide +kernel
theorem dX0_init_9 : decode cX0_init 9 = .ok (.aload_n 0, 1) := by decide +kernel
theorem dX0_init_10 : decode cX0_init 10 = .ok (.iconst 0, 1) := by decide +kernel
theorem dX0_init_11 : decode cX0_init 11 = .ok (.putfield 15, 3) := by decide +kernel
theorem dX0_init_14 : decode cX0_init 14 = .ok (.aload_n 0, 1) := by decide +kernel
theorem dX0_init_15 : decode cX0_init 15 = .ok (.iconst (-1), 1) := by decide +kernel
theorem dX0_init_16 : decode cX0_init 16 = .ok (.putfield 18, 3) := by decide +kernel
theorem dX0_init_19 : decode cX0_init 19 = .ok (.aload_n 0, 1) := by decide +kernel
theorem dX0_init_20 : decode cX0_init 20 = .ok (.iconst 0, 1) := by decide +kernel
theorem dX0_init_21 : decode cX0_init 21 = .ok (.putfield 21, 3) := by decide +kernel
theorem dX0_init_24 : decode cX0_init 24 = .ok (.aload_n 0, 1) := by decide +kernel
theorem dX0_init_25 : decode cX0_init 25 = .ok (.iconst 0, 1) := by decide +kernel
theorem dX0_init_26 : decode cX0_init 26 = .ok (.putfield 24, 3) := by decide +kernel
theorem dX0_init_29 : decode cX0_init 29 = .ok (.aload_n 0, 1) := by decide +kernel
theorem dX0_init_30 : decode cX0_init 30 = .ok (.iconst 0, 1) := by decide +kernel
theorem dX0_init_31 : decode cX0_init 31 = .ok (.putfield 27, 3) := by decide +kernel
theorem dX0_init_34 : decode cX0_init 34 = .ok (.aload_n 0, 1) := by decide +kernel
theorem dX0_init_35 : decode cX0_init 35 = .ok (.sipush 200, 3) := by decide +kernel
theorem dX0_init_38 : decode cX0_init 38 = .ok (.newarray .boolean, 2) := by decide +kernel
theorem dX0_init_40 : decode cX0_init 40 = .ok (.putfield 30, 3) := by decide +kernel
theorem dX0_init_43 : decode cX0_init 43 = .ok (.aload_n 0, 1) := by decide +kernel
theorem dX0_init_44 : decode cX0_init 44 = .ok (.bipush 50, 2) := by decide +kernel
theorem dX0_init_46 : decode cX0_init 46 = .ok (.newarray .int, 2) := by decide +kernel
theorem dX0_init_48 : decode cX0_init 48 = .ok (.putfield 34, 3) := by decide +kernel
theorem dX0_init_51 : decode cX0_init 51 = .ok (.aload_n 0, 1) := by decide +kernel
theorem dX0_init_52 : decode cX0_init 52 = .ok (.aload_n 1, 1) := by decide +kernel
theorem dX0_init_53 : decode cX0_init 53 = .ok (.putfield 38, 3) := by decide +kernel
theorem dX0_init_56 : decode cX0_init 56 = .ok (.aload_n 0, 1) := by decide +kernel
theorem dX0_init_57 : decode cX0_init 57 = .ok (.aload_n 2, 1) := by decide +kernel
theorem dX0_init_58 : decode cX0_init 58 = .ok (.putfield 42, 3) := by decide +kernel
theorem dX0_init_61 : decode cX0_init 61 = .ok (.aload_n 0, 1) := by decide +kernel
theorem dX0_init_62 : decode cX0_init 62 = .ok (.iload_n 3, 1) := by decide +kernel
theorem dX0_init_63 : decode cX0_init 63 = .ok (.putfield 46, 3) := by decide +kernel
theorem dX0_init_66 : decode cX0_init 66 = .ok (.return_, 1) := by decide +kernel
theorem dX0_runsIn_0 : decode cX0_runsIn 0 = .ok (.iload_n 1, 1) := by decide +kernel
theorem dX0_runsIn_1 : decode cX0_runsIn 1 = .ok (.aload_n 0, 1) := by decide +kernel
theorem dX0_runsIn_2 : decode cX0_runsIn 2 = .ok (.getfield 46, 3) := by decide +kernel
theorem dX0_runsIn_5 : decode cX0_runsIn 5 = .ok (.if_icmp .lt 23, 3) := by decide +kernel
theorem dX0_runsIn_8 : decode cX0_runsIn 8 = .ok (.aload_n 0, 1) := by decide +kernel
theorem dX0_runsIn_9 : decode cX0_runsIn 9 = .ok (.getfield 9, 3) := by decide +kernel
theorem dX0_runsIn_12 : decode cX0_runsIn 12 = .ok (.iconst (-1), 1) := by decide +kernel
theorem dX0_runsIn_13 : decode cX0_runsIn 13 = .ok (.if_icmp .eq 11, 3) := by decide +kernel
theorem dX0_runsIn_16 : decode cX0_runsIn 16 = .ok (.iload_n 1, 1) := by decide +kernel
theorem dX0_runsIn_17 : decode cX0_runsIn 17 = .ok (.aload_n 0, 1) := by decide +kernel
theorem dX0_runsIn_18 : decode cX0_runsIn 18 = .ok (.getfield 9, 3) := by decide +kernel
theorem dX0_runsIn_21 : decode cX0_runsIn 21 = .ok (.if_icmp .gt 7, 3) := by decide +kernel
theorem dX0_runsIn_24 : decode cX0_runsIn 24 = .ok (.iconst 1, 1) := by decide +kernel
theorem dX0_runsIn_25 : decode cX0_runsIn 25 = .ok (.goto 4, 3) := by decide +kernel
theorem dX0_runsIn_28 : decode cX0_runsIn 28 = .ok (.iconst 0, 1) := by decide +kernel
theorem dX0_runsIn_29 : decode cX0_runsIn 29 = .ok (.ireturn, 1) := by decide +kernel
set_option maxRecDepth 20000 in
theorem dX0_weeksRunIn_0 : decode cX0_weeksRunIn 0 = .ok (.iconst 0, 1) := by decide +kernel
theorem dX0_weeksRunIn_1 : decode cX0_weeksRunIn 1 = .ok (.istore_n 2, 1) := by decide +kernel
theorem dX0_weeksRunIn_2 : decode cX0_weeksRunIn 2 = .ok (.iconst 1, 1) := by decide +kernel
theorem dX0_weeksRunIn_3 : decode cX0_weeksRunIn 3 = .ok (.istore_n 3, 1) := by decide +kernel
theorem dX0_weeksRunIn_4 : decode cX0_weeksRunIn 4 = .ok (.iload_n 3, 1) := by decide +kernel
theorem dX0_weeksRunIn_5 : decode cX0_weeksRunIn 5 = .ok (.iconst 4, 1) := by decide +kernel
theorem dX0_weeksRunIn_6 : decode cX0_weeksRunIn 6 = .ok (.if_icmp .gt 24, 3) := by decide +kernel
theorem dX0_weeksRunIn_9 : decode cX0_weeksRunIn 9 = .ok (.aload_n 0, 1) := by decide +kernel
theorem dX0_weeksRunIn_10 : decode cX0_weeksRunIn 10 = .ok (.iload_n 1, 1) := by decide +kernel
theorem dX0_weeksRunIn_11 : decode cX0_weeksRunIn 11 = .ok (.iconst 4, 1) := by decide +kernel
theorem dX0_weeksRunIn_12 : decode cX0_weeksRunIn 12 = .ok (.imul, 1) := by decide +kernel
theorem dX0_weeksRunIn_13 : decode cX0_weeksRunIn 13 = .ok (.iload_n 3, 1) := by decide +kernel
theorem dX0_weeksRunIn_14 : decode cX0_weeksRunIn 14 = .ok (.iadd, 1) := by decide +kernel
theorem dX0_weeksRunIn_15 : decode cX0_weeksRunIn 15 = .ok (.invokevirtual 49, 3) := by decide +kernel
theorem dX0_weeksRunIn_18 : decode cX0_weeksRunIn 18 = .ok (.ifCond .eq 6, 3) := by decide +kernel
theorem dX0_weeksRunIn_21 : decode cX0_weeksRunIn 21 = .ok (.iinc 2 1, 3) := by decide +kernel
theorem dX0_weeksRunIn_24 : decode cX0_weeksRunIn 24 = .ok (.iinc 3 1, 3) := by decide +kernel
theorem dX0_weeksRunIn_27 : decode cX0_weeksRunIn 27 = .ok (.goto (-23), 3) := by decide +kernel
theorem dX0_weeksRunIn_30 : decode cX0_weeksRunIn 30 = .ok (.iload_n 2, 1) := by decide +kernel
theorem dX0_weeksRunIn_31 : decode cX0_weeksRunIn 31 = .ok (.ireturn, 1) := by decide +kernel
theorem dX0_receive_0 : decode cX0_receive 0 = .ok (.aload_n 0, 1) := by decide +kernel
theorem dX0_receive_1 : decode cX0_receive 1 = .ok (.getfield 42, 3) := by decide +kernel
theorem dX0_receive_4 : decode cX0_receive 4 = .ok (.getfield 53, 3) := by decide +kernel
theorem dX0_receive_7 : decode cX0_receive 7 = .ok (.ifCond .eq 15, 3) := by decide +kernel
theorem dX0_receive_10 : decode cX0_receive 10 = .ok (.aload_n 0, 1) := by decide +kernel
theorem dX0_receive_11 : decode cX0_receive 11 = .ok (.getfield 21, 3) := by decide +kernel
theorem dX0_receive_14 : decode cX0_receive 14 = .ok (.aload_n 0, 1) := by decide +kernel
theorem dX0_receive_15 : decode cX0_receive 15 = .ok (.getfield 30, 3) := by decide +kernel
theorem dX0_receive_18 : decode cX0_receive 18 = .ok (.arraylength, 1) := by decide +kernel
theorem dX0_receive_19 : decode cX0_receive 19 = .ok (.if_icmp .lt 4, 3) := by decide +kernel
theorem dX0_receive_22 : decode cX0_receive 22 = .ok (.return_, 1) := by decide +kernel
theorem dX0_receive_23 : decode cX0_receive 23 = .ok (.aload_n 0, 1) := by decide +kernel
theorem dX0_receive_24 : decode cX0_receive 24 = .ok (.getfield 21, 3) := by decide +kernel
theorem dX0_receive_27 : decode cX0_receive 27 = .ok (.ifCond .ne 14, 3) := by decide +kernel
theorem dX0_receive_30 : decode cX0_receive 30 = .ok (.aload_n 0, 1) := by decide +kernel
theorem dX0_receive_31 : decode cX0_receive 31 = .ok (.aload_n 0, 1) := by decide +kernel
theorem dX0_receive_32 : decode cX0_receive 32 = .ok (.getfield 42, 3) := by decide +kernel
theorem dX0_receive_35 : decode cX0_receive 35 = .ok (.getfield 59, 3) := by decide +kernel
theorem dX0_receive_38 : decode cX0_receive 38 = .ok (.putfield 18, 3) := by decide +kernel
theorem dX0_receive_41 : decode cX0_receive 41 = .ok (.aload_n 0, 1) := by decide +kernel
theorem dX0_receive_42 : decode cX0_receive 42 = .ok (.getfield 30, 3) := by decide +kernel
theorem dX0_receive_45 : decode cX0_receive 45 = .ok (.aload_n 0, 1) := by decide +kernel
theorem dX0_receive_46 : decode cX0_receive 46 = .ok (.getfield 21, 3) := by decide +kernel
theorem dX0_receive_49 : decode cX0_receive 49 = .ok (.aload_n 0, 1) := by decide +kernel
theorem dX0_receive_50 : decode cX0_receive 50 = .ok (.getfield 15, 3) := by decide +kernel
theorem dX0_receive_53 : decode cX0_receive 53 = .ok (.iload_n 1, 1) := by decide +kernel
theorem dX0_receive_54 : decode cX0_receive 54 = .ok (.if_icmp .eq 7, 3) := by decide +kernel
theorem dX0_receive_57 : decode cX0_receive 57 = .ok (.iconst 1, 1) := by decide +kernel
theorem dX0_receive_58 : decode cX0_receive 58 = .ok (.goto 4, 3) := by decide +kernel
theorem dX0_receive_61 : decode cX0_receive 61 = .ok (.iconst 0, 1) := by decide +kernel
theorem dX0_receive_62 : decode cX0_receive 62 = .ok (.bastore, 1) := by decide +kernel
theorem dX0_receive_63 : decode cX0_receive 63 = .ok (.aload_n 0, 1) := by decide +kernel
theorem dX0_receive_64 : decode cX0_receive 64 = .ok (.dup, 1) := by decide +kernel
theorem dX0_receive_65 : decode cX0_receive 65 = .ok (.getfield 21, 3) := by decide +kernel
theorem dX0_receive_68 : decode cX0_receive 68 = .ok (.iconst 1, 1) := by decide +kernel
theorem dX0_receive_69 : decode cX0_receive 69 = .ok (.iadd, 1) := by decide +kernel
theorem dX0_receive_70 : decode cX0_receive 70 = .ok (.putfield 21, 3) := by decide +kernel
theorem dX0_receive_73 : decode cX0_receive 73 = .ok (.return_, 1) := by decide +kernel
set_option maxRecDepth 20000 in
theorem dX0_print_0 : decode cX0_print 0 = .ok (.aload_n 0, 1) := by decide +kernel
theorem dX0_print_1 : decode cX0_print 1 = .ok (.aload_n 0, 1) := by decide +kernel
theorem dX0_print_2 : decode cX0_print 2 = .ok (.getfield 24, 3) := by decide +kernel
theorem dX0_print_5 : decode cX0_print 5 = .ok (.invokevirtual 62, 3) := by decide +kernel
theorem dX0_print_8 : decode cX0_print 8 = .ok (.ifCond .ne 4, 3) := by decide +kernel
theorem dX0_print_11 : decode cX0_print 11 = .ok (.return_, 1) := by decide +kernel
theorem dX0_print_12 : decode cX0_print 12 = .ok (.iconst 1, 1) := by decide +kernel
theorem dX0_print_13 : decode cX0_print 13 = .ok (.istore_n 2, 1) := by decide +kernel
theorem dX0_print_14 : decode cX0_print 14 = .ok (.aload_n 0, 1) := by decide +kernel
theorem dX0_print_15 : decode cX0_print 15 = .ok (.getfield 42, 3) := by decide +kernel
theorem dX0_print_18 : decode cX0_print 18 = .ok (.getfield 53, 3) := by decide +kernel
theorem dX0_print_21 : decode cX0_print 21 = .ok (.ifCond .eq 18, 3) := by decide +kernel
theorem dX0_print_24 : decode cX0_print 24 = .ok (.aload_n 0, 1) := by decide +kernel
theorem dX0_print_25 : decode cX0_print 25 = .ok (.getfield 24, 3) := by decide +kernel
theorem dX0_print_28 : decode cX0_print 28 = .ok (.iconst 1, 1) := by decide +kernel
theorem dX0_print_29 : decode cX0_print 29 = .ok (.iadd, 1) := by decide +kernel
theorem dX0_print_30 : decode cX0_print 30 = .ok (.aload_n 0, 1) := by decide +kernel
theorem dX0_print_31 : decode cX0_print 31 = .ok (.getfield 21, 3) := by decide +kernel
theorem dX0_print_34 : decode cX0_print 34 = .ok (.iconst 1, 1) := by decide +kernel
theorem dX0_print_35 : decode cX0_print 35 = .ok (.isub, 1) := by decide +kernel
theorem dX0_print_36 : decode cX0_print 36 = .ok (.if_icmp .ge 7, 3) := by decide +kernel
theorem dX0_print_39 : decode cX0_print 39 = .ok (.iconst 1, 1) := by decide +kernel
theorem dX0_print_40 : decode cX0_print 40 = .ok (.goto 4, 3) := by decide +kernel
theorem dX0_print_43 : decode cX0_print 43 = .ok (.iconst 0, 1) := by decide +kernel
theorem dX0_print_44 : decode cX0_print 44 = .ok (.istore_n 3, 1) := by decide +kernel
theorem dX0_print_45 : decode cX0_print 45 = .ok (.iload_n 3, 1) := by decide +kernel
theorem dX0_print_46 : decode cX0_print 46 = .ok (.ifCond .eq 18, 3) := by decide +kernel
theorem dX0_print_49 : decode cX0_print 49 = .ok (.aload_n 0, 1) := by decide +kernel
theorem dX0_print_50 : decode cX0_print 50 = .ok (.aload_n 0, 1) := by decide +kernel
theorem dX0_print_51 : decode cX0_print 51 = .ok (.getfield 24, 3) := by decide +kernel
theorem dX0_print_54 : decode cX0_print 54 = .ok (.iconst 1, 1) := by decide +kernel
theorem dX0_print_55 : decode cX0_print 55 = .ok (.iadd, 1) := by decide +kernel
theorem dX0_print_56 : decode cX0_print 56 = .ok (.invokevirtual 62, 3) := by decide +kernel
theorem dX0_print_59 : decode cX0_print 59 = .ok (.ifCond .eq 5, 3) := by decide +kernel
theorem dX0_print_62 : decode cX0_print 62 = .ok (.iconst 2, 1) := by decide +kernel
theorem dX0_print_63 : decode cX0_print 63 = .ok (.istore_n 2, 1) := by decide +kernel
theorem dX0_print_64 : decode cX0_print 64 = .ok (.aload_n 0, 1) := by decide +kernel
theorem dX0_print_65 : decode cX0_print 65 = .ok (.dup, 1) := by decide +kernel
theorem dX0_print_66 : decode cX0_print 66 = .ok (.getfield 24, 3) := by decide +kernel
theorem dX0_print_69 : decode cX0_print 69 = .ok (.iload_n 2, 1) := by decide +kernel
theorem dX0_print_70 : decode cX0_print 70 = .ok (.iadd, 1) := by decide +kernel
theorem dX0_print_71 : decode cX0_print 71 = .ok (.putfield 24, 3) := by decide +kernel
theorem dX0_print_74 : decode cX0_print 74 = .ok (.iload_n 1, 1) := by decide +kernel
theorem dX0_print_75 : decode cX0_print 75 = .ok (.iconst 0, 1) := by decide +kernel
theorem dX0_print_76 : decode cX0_print 76 = .ok (.aload_n 0, 1) := by decide +kernel
theorem dX0_print_77 : decode cX0_print 77 = .ok (.getfield 34, 3) := by decide +kernel
theorem dX0_print_80 : decode cX0_print 80 = .ok (.arraylength, 1) := by decide +kernel
theorem dX0_print_81 : decode cX0_print 81 = .ok (.iconst 1, 1) := by decide +kernel
theorem dX0_print_82 : decode cX0_print 82 = .ok (.isub, 1) := by decide +kernel
theorem dX0_print_83 : decode cX0_print 83 = .ok (.invokestatic 65, 3) := by decide +kernel
theorem dX0_print_86 : decode cX0_print 86 = .ok (.ifCond .eq 13, 3) := by decide +kernel
theorem dX0_print_89 : decode cX0_print 89 = .ok (.aload_n 0, 1) := by decide +kernel
theorem dX0_print_90 : decode cX0_print 90 = .ok (.getfield 34, 3) := by decide +kernel
theorem dX0_print_93 : decode cX0_print 93 = .ok (.iload_n 1, 1) := by decide +kernel
theorem dX0_print_94 : decode cX0_print 94 = .ok (.dup2, 1) := by decide +kernel
theorem dX0_print_95 : decode cX0_print 95 = .ok (.iaload, 1) := by decide +kernel
theorem dX0_print_96 : decode cX0_print 96 = .ok (.iload_n 2, 1) := by decide +kernel
theorem dX0_print_97 : decode cX0_print 97 = .ok (.iadd, 1) := by decide +kernel
theorem dX0_print_98 : decode cX0_print 98 = .ok (.iastore, 1) := by decide +kernel
theorem dX0_print_99 : decode cX0_print 99 = .ok (.return_, 1) := by decide +kernel
theorem dX0_isThere_0 : decode cX0_isThere 0 = .ok (.iload_n 1, 1) := by decide +kernel
theorem dX0_isThere_1 : decode cX0_isThere 1 = .ok (.ifCond .lt 33, 3) := by decide +kernel
theorem dX0_isThere_4 : decode cX0_isThere 4 = .ok (.iload_n 1, 1) := by decide +kernel
theorem dX0_isThere_5 : decode cX0_isThere 5 = .ok (.aload_n 0, 1) := by decide +kernel
theorem dX0_isThere_6 : decode cX0_isThere 6 = .ok (.getfield 21, 3) := by decide +kernel
theorem dX0_isThere_9 : decode cX0_isThere 9 = .ok (.if_icmp .ge 25, 3) := by decide +kernel
theorem dX0_isThere_12 : decode cX0_isThere 12 = .ok (.iload_n 1, 1) := by decide +kernel
theorem dX0_isThere_13 : decode cX0_isThere 13 = .ok (.aload_n 0, 1) := by decide +kernel
theorem dX0_isThere_14 : decode cX0_isThere 14 = .ok (.getfield 30, 3) := by decide +kernel
theorem dX0_isThere_17 : decode cX0_isThere 17 = .ok (.arraylength, 1) := by decide +kernel
theorem dX0_isThere_18 : decode cX0_isThere 18 = .ok (.if_icmp .ge 16, 3) := by decide +kernel
theorem dX0_isThere_21 : decode cX0_isThere 21 = .ok (.aload_n 0, 1) := by decide +kernel
theorem dX0_isThere_22 : decode cX0_isThere 22 = .ok (.getfield 30, 3) := by decide +kernel
theorem dX0_isThere_25 : decode cX0_isThere 25 = .ok (.iload_n 1, 1) := by decide +kernel
theorem dX0_isThere_26 : decode cX0_isThere 26 = .ok (.baload, 1) := by decide +kernel
theorem dX0_isThere_27 : decode cX0_isThere 27 = .ok (.ifCond .eq 7, 3) := by decide +kernel
theorem dX0_isThere_30 : decode cX0_isThere 30 = .ok (.iconst 1, 1) := by decide +kernel
theorem dX0_isThere_31 : decode cX0_isThere 31 = .ok (.goto 4, 3) := by decide +kernel
theorem dX0_isThere_34 : decode cX0_isThere 34 = .ok (.iconst 0, 1) := by decide +kernel
theorem dX0_isThere_35 : decode cX0_isThere 35 = .ok (.ireturn, 1) := by decide +kernel
set_option maxRecDepth 20000 in
theorem dX0_printedIn_0 : decode cX0_printedIn 0 = .ok (.iload_n 1, 1) := by decide +kernel
theorem dX0_printedIn_1 : decode cX0_printedIn 1 = .ok (.iconst 0, 1) := by decide +kernel
theorem dX0_printedIn_2 : decode cX0_printedIn 2 = .ok (.aload_n 0, 1) := by decide +kernel
theorem dX0_printedIn_3 : decode cX0_printedIn 3 = .ok (.getfield 34, 3) := by decide +kernel
theorem dX0_printedIn_6 : decode cX0_printedIn 6 = .ok (.arraylength, 1) := by decide +kernel
theorem dX0_printedIn_7 : decode cX0_printedIn 7 = .ok (.iconst 1, 1) := by decide +kernel
theorem dX0_printedIn_8 : decode cX0_printedIn 8 = .ok (.isub, 1) := by decide +kernel
theorem dX0_printedIn_9 : decode cX0_printedIn 9 = .ok (.invokestatic 65, 3) := by decide +kernel
theorem dX0_printedIn_12 : decode cX0_printedIn 12 = .ok (.ifCond .eq 12, 3) := by decide +kernel
theorem dX0_printedIn_15 : decode cX0_printedIn 15 = .ok (.aload_n 0, 1) := by decide +kernel
theorem dX0_printedIn_16 : decode cX0_printedIn 16 = .ok (.getfield 34, 3) := by decide +kernel
theorem dX0_printedIn_19 : decode cX0_printedIn 19 = .ok (.iload_n 1, 1) := by decide +kernel
theorem dX0_printedIn_20 : decode cX0_printedIn 20 = .ok (.iaload, 1) := by decide +kernel
theorem dX0_printedIn_21 : decode cX0_printedIn 21 = .ok (.goto 4, 3) := by decide +kernel
theorem dX0_printedIn_24 : decode cX0_printedIn 24 = .ok (.iconst 0, 1) := by decide +kernel
theorem dX0_printedIn_25 : decode cX0_printedIn 25 = .ok (.ireturn, 1) := by decide +kernel
theorem dX0_nextPanel_0 : decode cX0_nextPanel 0 = .ok (.aload_n 0, 1) := by decide +kernel
theorem dX0_nextPanel_1 : decode cX0_nextPanel 1 = .ok (.getfield 21, 3) := by decide +kernel
theorem dX0_nextPanel_4 : decode cX0_nextPanel 4 = .ok (.ifCond .ne 7, 3) := by decide +kernel
theorem dX0_nextPanel_7 : decode cX0_nextPanel 7 = .ok (.iconst (-1), 1) := by decide +kernel
theorem dX0_nextPanel_8 : decode cX0_nextPanel 8 = .ok (.goto 12, 3) := by decide +kernel
theorem dX0_nextPanel_11 : decode cX0_nextPanel 11 = .ok (.aload_n 0, 1) := by decide +kernel
theorem dX0_nextPanel_12 : decode cX0_nextPanel 12 = .ok (.getfield 18, 3) := by decide +kernel
theorem dX0_nextPanel_15 : decode cX0_nextPanel 15 = .ok (.aload_n 0, 1) := by decide +kernel
theorem dX0_nextPanel_16 : decode cX0_nextPanel 16 = .ok (.getfield 24, 3) := by decide +kernel
theorem dX0_nextPanel_19 : decode cX0_nextPanel 19 = .ok (.iadd, 1) := by decide +kernel
theorem dX0_nextPanel_20 : decode cX0_nextPanel 20 = .ok (.ireturn, 1) := by decide +kernel
theorem dX0_gap_0 : decode cX0_gap 0 = .ok (.aload_n 0, 1) := by decide +kernel
theorem dX0_gap_1 : decode cX0_gap 1 = .ok (.getfield 21, 3) := by decide +kernel
theorem dX0_gap_4 : decode cX0_gap 4 = .ok (.aload_n 0, 1) := by decide +kernel
theorem dX0_gap_5 : decode cX0_gap 5 = .ok (.getfield 24, 3) := by decide +kernel
theorem dX0_gap_8 : decode cX0_gap 8 = .ok (.isub, 1) := by decide +kernel
theorem dX0_gap_9 : decode cX0_gap 9 = .ok (.ireturn, 1) := by decide +kernel
set_option maxRecDepth 20000 in
theorem dX0_missing_0 : decode cX0_missing 0 = .ok (.iconst 0, 1) := by decide +kernel
theorem dX0_missing_1 : decode cX0_missing 1 = .ok (.istore_n 1, 1) := by decide +kernel
theorem dX0_missing_2 : decode cX0_missing 2 = .ok (.aload_n 0, 1) := by decide +kernel
theorem dX0_missing_3 : decode cX0_missing 3 = .ok (.getfield 24, 3) := by decide +kernel
theorem dX0_missing_6 : decode cX0_missing 6 = .ok (.istore_n 2, 1) := by decide +kernel
theorem dX0_missing_7 : decode cX0_missing 7 = .ok (.iload_n 2, 1) := by decide +kernel
theorem dX0_missing_8 : decode cX0_missing 8 = .ok (.aload_n 0, 1) := by decide +kernel
theorem dX0_missing_9 : decode cX0_missing 9 = .ok (.getfield 21, 3) := by decide +kernel
theorem dX0_missing_12 : decode cX0_missing 12 = .ok (.if_icmp .ge 20, 3) := by decide +kernel
theorem dX0_missing_15 : decode cX0_missing 15 = .ok (.aload_n 0, 1) := by decide +kernel
theorem dX0_missing_16 : decode cX0_missing 16 = .ok (.iload_n 2, 1) := by decide +kernel
theorem dX0_missing_17 : decode cX0_missing 17 = .ok (.invokevirtual 62, 3) := by decide +kernel
theorem dX0_missing_20 : decode cX0_missing 20 = .ok (.ifCond .ne 6, 3) := by decide +kernel
theorem dX0_missing_23 : decode cX0_missing 23 = .ok (.iinc 1 1, 3) := by decide +kernel
theorem dX0_missing_26 : decode cX0_missing 26 = .ok (.iinc 2 1, 3) := by decide +kernel
theorem dX0_missing_29 : decode cX0_missing 29 = .ok (.goto (-22), 3) := by decide +kernel
theorem dX0_missing_32 : decode cX0_missing 32 = .ok (.iload_n 1, 1) := by decide +kernel
theorem dX0_missing_33 : decode cX0_missing 33 = .ok (.ireturn, 1) := by decide +kernel
theorem dX0_sendAgain_0 : decode cX0_sendAgain 0 = .ok (.aload_n 0, 1) := by decide +kernel
theorem dX0_sendAgain_1 : decode cX0_sendAgain 1 = .ok (.getfield 24, 3) := by decide +kernel
theorem dX0_sendAgain_4 : decode cX0_sendAgain 4 = .ok (.iconst 0, 1) := by decide +kernel
theorem dX0_sendAgain_5 : decode cX0_sendAgain 5 = .ok (.invokestatic 69, 3) := by decide +kernel
theorem dX0_sendAgain_8 : decode cX0_sendAgain 8 = .ok (.istore_n 1, 1) := by decide +kernel
theorem dX0_sendAgain_9 : decode cX0_sendAgain 9 = .ok (.iload_n 1, 1) := by decide +kernel
theorem dX0_sendAgain_10 : decode cX0_sendAgain 10 = .ok (.aload_n 0, 1) := by decide +kernel
theorem dX0_sendAgain_11 : decode cX0_sendAgain 11 = .ok (.getfield 21, 3) := by decide +kernel
theorem dX0_sendAgain_14 : decode cX0_sendAgain 14 = .ok (.if_icmp .ge 41, 3) := by decide +kernel
theorem dX0_sendAgain_17 : decode cX0_sendAgain 17 = .ok (.iload_n 1, 1) := by decide +kernel
theorem dX0_sendAgain_18 : decode cX0_sendAgain 18 = .ok (.aload_n 0, 1) := by decide +kernel
theorem dX0_sendAgain_19 : decode cX0_sendAgain 19 = .ok (.getfield 30, 3) := by decide +kernel
theorem dX0_sendAgain_22 : decode cX0_sendAgain 22 = .ok (.arraylength, 1) := by decide +kernel
theorem dX0_sendAgain_23 : decode cX0_sendAgain 23 = .ok (.if_icmp .ge 32, 3) := by decide +kernel
theorem dX0_sendAgain_26 : decode cX0_sendAgain 26 = .ok (.aload_n 0, 1) := by decide +kernel
theorem dX0_sendAgain_27 : decode cX0_sendAgain 27 = .ok (.getfield 30, 3) := by decide +kernel
theorem dX0_sendAgain_30 : decode cX0_sendAgain 30 = .ok (.iload_n 1, 1) := by decide +kernel
theorem dX0_sendAgain_31 : decode cX0_sendAgain 31 = .ok (.baload, 1) := by decide +kernel
theorem dX0_sendAgain_32 : decode cX0_sendAgain 32 = .ok (.ifCond .ne 17, 3) := by decide +kernel
theorem dX0_sendAgain_35 : decode cX0_sendAgain 35 = .ok (.aload_n 0, 1) := by decide +kernel
theorem dX0_sendAgain_36 : decode cX0_sendAgain 36 = .ok (.getfield 30, 3) := by decide +kernel
theorem dX0_sendAgain_39 : decode cX0_sendAgain 39 = .ok (.iload_n 1, 1) := by decide +kernel
theorem dX0_sendAgain_40 : decode cX0_sendAgain 40 = .ok (.iconst 1, 1) := by decide +kernel
theorem dX0_sendAgain_41 : decode cX0_sendAgain 41 = .ok (.bastore, 1) := by decide +kernel
theorem dX0_sendAgain_42 : decode cX0_sendAgain 42 = .ok (.aload_n 0, 1) := by decide +kernel
theorem dX0_sendAgain_43 : decode cX0_sendAgain 43 = .ok (.getfield 18, 3) := by decide +kernel
theorem dX0_sendAgain_46 : decode cX0_sendAgain 46 = .ok (.iload_n 1, 1) := by decide +kernel
theorem dX0_sendAgain_47 : decode cX0_sendAgain 47 = .ok (.iadd, 1) := by decide +kernel
theorem dX0_sendAgain_48 : decode cX0_sendAgain 48 = .ok (.ireturn, 1) := by decide +kernel
theorem dX0_sendAgain_49 : decode cX0_sendAgain 49 = .ok (.iinc 1 1, 3) := by decide +kernel
theorem dX0_sendAgain_52 : decode cX0_sendAgain 52 = .ok (.goto (-43), 3) := by decide +kernel
theorem dX0_sendAgain_55 : decode cX0_sendAgain 55 = .ok (.iconst (-1), 1) := by decide +kernel
theorem dX0_sendAgain_56 : decode cX0_sendAgain 56 = .ok (.ireturn, 1) := by decide +kernel
theorem dX0_addBill_0 : decode cX0_addBill 0 = .ok (.aload_n 0, 1) := by decide +kernel
theorem dX0_addBill_1 : decode cX0_addBill 1 = .ok (.dup, 1) := by decide +kernel
theorem dX0_addBill_2 : decode cX0_addBill 2 = .ok (.getfield 27, 3) := by decide +kernel
theorem dX0_addBill_5 : decode cX0_addBill 5 = .ok (.iload_n 1, 1) := by decide +kernel
theorem dX0_addBill_6 : decode cX0_addBill 6 = .ok (.iadd, 1) := by decide +kernel
theorem dX0_addBill_7 : decode cX0_addBill 7 = .ok (.putfield 27, 3) := by decide +kernel
theorem dX0_addBill_10 : decode cX0_addBill 10 = .ok (.aload_n 0, 1) := by decide +kernel
theorem dX0_addBill_11 : decode cX0_addBill 11 = .ok (.getfield 42, 3) := by decide +kernel
theorem dX0_addBill_14 : decode cX0_addBill 14 = .ok (.dup, 1) := by decide +kernel
theorem dX0_addBill_15 : decode cX0_addBill 15 = .ok (.getfield 75, 3) := by decide +kernel
theorem dX0_addBill_18 : decode cX0_addBill 18 = .ok (.iload_n 1, 1) := by decide +kernel
theorem dX0_addBill_19 : decode cX0_addBill 19 = .ok (.iadd, 1) := by decide +kernel
theorem dX0_addBill_20 : decode cX0_addBill 20 = .ok (.putfield 75, 3) := by decide +kernel
theorem dX0_addBill_23 : decode cX0_addBill 23 = .ok (.return_, 1) := by decide +kernel
theorem dX1_init_0 : decode cX1_init 0 = .ok (.aload_n 0, 1) := by decide +kernel
theorem dX1_init_1 : decode cX1_init 1 = .ok (.invokespecial 3, 3) := by decide +kernel
theorem dX1_init_4 : decode cX1_init 4 = .ok (.aload_n 0, 1) := by decide +kernel
theorem dX1_init_5 : decode cX1_init 5 = .ok (.iconst 3, 1) := by decide +kernel
theorem dX1_init_6 : decode cX1_init 6 = .ok (.newarray .int, 2) := by decide +kernel
theorem dX1_init_8 : decode cX1_init 8 = .ok (.putfield 9, 3) := by decide +kernel
theorem dX1_init_11 : decode cX1_init 11 = .ok (.aload_n 0, 1) := by decide +kernel
theorem dX1_init_12 : decode cX1_init 12 = .ok (.iconst 0, 1) := by decide +kernel
theorem dX1_init_13 : decode cX1_init 13 = .ok (.putfield 15, 3) := by decide +kernel
theorem dX1_init_16 : decode cX1_init 16 = .ok (.aload_n 0, 1) := by decide +kernel
theorem dX1_init_17 : decode cX1_init 17 = .ok (.iconst 0, 1) := by decide +kernel
theorem dX1_init_18 : decode cX1_init 18 = .ok (.putfield 19, 3) := by decide +kernel
theorem dX1_init_21 : decode cX1_init 21 = .ok (.aload_n 0, 1) := by decide +kernel
theorem dX1_init_22 : decode cX1_init 22 = .ok (.iconst 0, 1) := by decide +kernel
theorem dX1_init_23 : decode cX1_init 23 = .ok (.putfield 23, 3) := by decide +kernel
theorem dX1_init_26 : decode cX1_init 26 = .ok (.aload_n 0, 1) := by decide +kernel
theorem dX1_init_27 : decode cX1_init 27 = .ok (.iconst 0, 1) := by decide +kernel
theorem dX1_init_28 : decode cX1_init 28 = .ok (.putfield 26, 3) := by decide +kernel
theorem dX1_init_31 : decode cX1_init 31 = .ok (.aload_n 0, 1) := by decide +kernel
theorem dX1_init_32 : decode cX1_init 32 = .ok (.iconst 0, 1) := by decide +kernel
theorem dX1_init_33 : decode cX1_init 33 = .ok (.putfield 29, 3) := by decide +kernel
theorem dX1_init_36 : decode cX1_init 36 = .ok (.aload_n 0, 1) := by decide +kernel
theorem dX1_init_37 : decode cX1_init 37 = .ok (.iload_n 1, 1) := by decide +kernel
theorem dX1_init_38 : decode cX1_init 38 = .ok (.putfield 32, 3) := by decide +kernel
theorem dX1_init_41 : decode cX1_init 41 = .ok (.aload_n 0, 1) := by decide +kernel
theorem dX1_init_42 : decode cX1_init 42 = .ok (.iload_n 2, 1) := by decide +kernel
theorem dX1_init_43 : decode cX1_init 43 = .ok (.putfield 35, 3) := by decide +kernel
theorem dX1_init_46 : decode cX1_init 46 = .ok (.aload_n 0, 1) := by decide +kernel
theorem dX1_init_47 : decode cX1_init 47 = .ok (.iload_n 3, 1) := by decide +kernel
theorem dX1_init_48 : decode cX1_init 48 = .ok (.putfield 38, 3) := by decide +kernel
theorem dX1_init_51 : decode cX1_init 51 = .ok (.aload_n 0, 1) := by decide +kernel
theorem dX1_init_52 : decode cX1_init 52 = .ok (.getfield 9, 3) := by decide +kernel
theorem dX1_init_55 : decode cX1_init 55 = .ok (.iconst 0, 1) := by decide +kernel
theorem dX1_init_56 : decode cX1_init 56 = .ok (.iload 4, 2) := by decide +kernel
theorem dX1_init_58 : decode cX1_init 58 = .ok (.iastore, 1) := by decide +kernel
theorem dX1_init_59 : decode cX1_init 59 = .ok (.aload_n 0, 1) := by decide +kernel
theorem dX1_init_60 : decode cX1_init 60 = .ok (.getfield 9, 3) := by decide +kernel
theorem dX1_init_63 : decode cX1_init 63 = .ok (.iconst 1, 1) := by decide +kernel
theorem dX1_init_64 : decode cX1_init 64 = .ok (.iload 5, 2) := by decide +kernel
theorem dX1_init_66 : decode cX1_init 66 = .ok (.iastore, 1) := by decide +kernel
theorem dX1_init_67 : decode cX1_init 67 = .ok (.aload_n 0, 1) := by decide +kernel
theorem dX1_init_68 : decode cX1_init 68 = .ok (.getfield 9, 3) := by decide +kernel
theorem dX1_init_71 : decode cX1_init 71 = .ok (.iconst 2, 1) := by decide +kernel
theorem dX1_init_72 : decode cX1_init 72 = .ok (.iload 6, 2) := by decide +kernel
theorem dX1_init_74 : decode cX1_init 74 = .ok (.iastore, 1) := by decide +kernel
theorem dX1_init_75 : decode cX1_init 75 = .ok (.return_, 1) := by decide +kernel
theorem dX1_draw_0 : decode cX1_draw 0 = .ok (.aload_n 0, 1) := by decide +kernel
theorem dX1_draw_1 : decode cX1_draw 1 = .ok (.aload_n 0, 1) := by decide +kernel
theorem dX1_draw_2 : decode cX1_draw 2 = .ok (.getfield 15, 3) := by decide +kernel
theorem dX1_draw_5 : decode cX1_draw 5 = .ok (.ifCond .ne 15, 3) := by decide +kernel
theorem dX1_draw_8 : decode cX1_draw 8 = .ok (.iload_n 1, 1) := by decide +kernel
theorem dX1_draw_9 : decode cX1_draw 9 = .ok (.aload_n 0, 1) := by decide +kernel
theorem dX1_draw_10 : decode cX1_draw 10 = .ok (.getfield 19, 3) := by decide +kernel
theorem dX1_draw_13 : decode cX1_draw 13 = .ok (.if_icmp .le 7, 3) := by decide +kernel
theorem dX1_draw_16 : decode cX1_draw 16 = .ok (.iconst 1, 1) := by decide +kernel
theorem dX1_draw_17 : decode cX1_draw 17 = .ok (.goto 4, 3) := by decide +kernel
theorem dX1_draw_20 : decode cX1_draw 20 = .ok (.iconst 0, 1) := by decide +kernel
theorem dX1_draw_21 : decode cX1_draw 21 = .ok (.putfield 26, 3) := by decide +kernel
theorem dX1_draw_24 : decode cX1_draw 24 = .ok (.aload_n 0, 1) := by decide +kernel
theorem dX1_draw_25 : decode cX1_draw 25 = .ok (.getfield 26, 3) := by decide +kernel
theorem dX1_draw_28 : decode cX1_draw 28 = .ok (.ifCond .eq 13, 3) := by decide +kernel
theorem dX1_draw_31 : decode cX1_draw 31 = .ok (.aload_n 0, 1) := by decide +kernel
theorem dX1_draw_32 : decode cX1_draw 32 = .ok (.dup, 1) := by decide +kernel
theorem dX1_draw_33 : decode cX1_draw 33 = .ok (.getfield 23, 3) := by decide +kernel
theorem dX1_draw_36 : decode cX1_draw 36 = .ok (.iconst 1, 1) := by decide +kernel
theorem dX1_draw_37 : decode cX1_draw 37 = .ok (.iadd, 1) := by decide +kernel
theorem dX1_draw_38 : decode cX1_draw 38 = .ok (.putfield 23, 3) := by decide +kernel
theorem dX1_draw_41 : decode cX1_draw 41 = .ok (.return_, 1) := by decide +kernel
set_option maxRecDepth 20000 in
theorem dX1_coinsOf_0 : decode cX1_coinsOf 0 = .ok (.aload_n 0, 1) := by decide +kernel
theorem dX1_coinsOf_1 : decode cX1_coinsOf 1 = .ok (.getfield 29, 3) := by decide +kernel
theorem dX1_coinsOf_4 : decode cX1_coinsOf 4 = .ok (.ifCond .gt 5, 3) := by decide +kernel
theorem dX1_coinsOf_7 : decode cX1_coinsOf 7 = .ok (.iconst 0, 1) := by decide +kernel
theorem dX1_coinsOf_8 : decode cX1_coinsOf 8 = .ok (.ireturn, 1) := by decide +kernel
theorem dX1_coinsOf_9 : decode cX1_coinsOf 9 = .ok (.aload_n 0, 1) := by decide +kernel
theorem dX1_coinsOf_10 : decode cX1_coinsOf 10 = .ok (.getfield 29, 3) := by decide +kernel
theorem dX1_coinsOf_13 : decode cX1_coinsOf 13 = .ok (.i2l, 1) := by decide +kernel
theorem dX1_coinsOf_14 : decode cX1_coinsOf 14 = .ok (.lstore_n 2, 1) := by decide +kernel
theorem dX1_coinsOf_15 : decode cX1_coinsOf 15 = .ok (.iconst 0, 1) := by decide +kernel
theorem dX1_coinsOf_16 : decode cX1_coinsOf 16 = .ok (.istore 4, 2) := by decide +kernel
theorem dX1_coinsOf_18 : decode cX1_coinsOf 18 = .ok (.iload 4, 2) := by decide +kernel
theorem dX1_coinsOf_20 : decode cX1_coinsOf 20 = .ok (.iconst 3, 1) := by decide +kernel
theorem dX1_coinsOf_21 : decode cX1_coinsOf 21 = .ok (.if_icmp .ge 18, 3) := by decide +kernel
theorem dX1_coinsOf_24 : decode cX1_coinsOf 24 = .ok (.lload_n 2, 1) := by decide +kernel
theorem dX1_coinsOf_25 : decode cX1_coinsOf 25 = .ok (.aload_n 0, 1) := by decide +kernel
theorem dX1_coinsOf_26 : decode cX1_coinsOf 26 = .ok (.iload 4, 2) := by decide +kernel
theorem dX1_coinsOf_28 : decode cX1_coinsOf 28 = .ok (.invokevirtual 41, 3) := by decide +kernel
theorem dX1_coinsOf_31 : decode cX1_coinsOf 31 = .ok (.lsub, 1) := by decide +kernel
theorem dX1_coinsOf_32 : decode cX1_coinsOf 32 = .ok (.lstore_n 2, 1) := by decide +kernel
theorem dX1_coinsOf_33 : decode cX1_coinsOf 33 = .ok (.iinc 4 1, 3) := by decide +kernel
theorem dX1_coinsOf_36 : decode cX1_coinsOf 36 = .ok (.goto (-18), 3) := by decide +kernel
theorem dX1_coinsOf_39 : decode cX1_coinsOf 39 = .ok (.aload_n 0, 1) := by decide +kernel
theorem dX1_coinsOf_40 : decode cX1_coinsOf 40 = .ok (.iload_n 1, 1) := by decide +kernel
theorem dX1_coinsOf_41 : decode cX1_coinsOf 41 = .ok (.invokevirtual 41, 3) := by decide +kernel
theorem dX1_coinsOf_44 : decode cX1_coinsOf 44 = .ok (.aload_n 0, 1) := by decide +kernel
theorem dX1_coinsOf_45 : decode cX1_coinsOf 45 = .ok (.iload_n 1, 1) := by decide +kernel
theorem dX1_coinsOf_46 : decode cX1_coinsOf 46 = .ok (.invokevirtual 45, 3) := by decide +kernel
theorem dX1_coinsOf_49 : decode cX1_coinsOf 49 = .ok (.i2l, 1) := by decide +kernel
theorem dX1_coinsOf_50 : decode cX1_coinsOf 50 = .ok (.lload_n 2, 1) := by decide +kernel
theorem dX1_coinsOf_51 : decode cX1_coinsOf 51 = .ok (.lcmp, 1) := by decide +kernel
theorem dX1_coinsOf_52 : decode cX1_coinsOf 52 = .ok (.ifCond .ge 7, 3) := by decide +kernel
theorem dX1_coinsOf_55 : decode cX1_coinsOf 55 = .ok (.iconst 1, 1) := by decide +kernel
theorem dX1_coinsOf_56 : decode cX1_coinsOf 56 = .ok (.goto 4, 3) := by decide +kernel
theorem dX1_coinsOf_59 : decode cX1_coinsOf 59 = .ok (.iconst 0, 1) := by decide +kernel
theorem dX1_coinsOf_60 : decode cX1_coinsOf 60 = .ok (.i2l, 1) := by decide +kernel
theorem dX1_coinsOf_61 : decode cX1_coinsOf 61 = .ok (.ladd, 1) := by decide +kernel
theorem dX1_coinsOf_62 : decode cX1_coinsOf 62 = .ok (.l2i, 1) := by decide +kernel
theorem dX1_coinsOf_63 : decode cX1_coinsOf 63 = .ok (.ireturn, 1) := by decide +kernel
set_option maxRecDepth 20000 in
theorem dX1_cutOf_0 : decode cX1_cutOf 0 = .ok (.aload_n 0, 1) := by decide +kernel
theorem dX1_cutOf_1 : decode cX1_cutOf 1 = .ok (.invokevirtual 49, 3) := by decide +kernel
theorem dX1_cutOf_4 : decode cX1_cutOf 4 = .ok (.lstore_n 2, 1) := by decide +kernel
theorem dX1_cutOf_5 : decode cX1_cutOf 5 = .ok (.lload_n 2, 1) := by decide +kernel
theorem dX1_cutOf_6 : decode cX1_cutOf 6 = .ok (.lconst 0, 1) := by decide +kernel
theorem dX1_cutOf_7 : decode cX1_cutOf 7 = .ok (.lcmp, 1) := by decide +kernel
theorem dX1_cutOf_8 : decode cX1_cutOf 8 = .ok (.ifCond .gt 7, 3) := by decide +kernel
theorem dX1_cutOf_11 : decode cX1_cutOf 11 = .ok (.lconst 0, 1) := by decide +kernel
theorem dX1_cutOf_12 : decode cX1_cutOf 12 = .ok (.goto 17, 3) := by decide +kernel
theorem dX1_cutOf_15 : decode cX1_cutOf 15 = .ok (.aload_n 0, 1) := by decide +kernel
theorem dX1_cutOf_16 : decode cX1_cutOf 16 = .ok (.getfield 29, 3) := by decide +kernel
theorem dX1_cutOf_19 : decode cX1_cutOf 19 = .ok (.i2l, 1) := by decide +kernel
theorem dX1_cutOf_20 : decode cX1_cutOf 20 = .ok (.aload_n 0, 1) := by decide +kernel
theorem dX1_cutOf_21 : decode cX1_cutOf 21 = .ok (.iload_n 1, 1) := by decide +kernel
theorem dX1_cutOf_22 : decode cX1_cutOf 22 = .ok (.invokevirtual 53, 3) := by decide +kernel
theorem dX1_cutOf_25 : decode cX1_cutOf 25 = .ok (.i2l, 1) := by decide +kernel
theorem dX1_cutOf_26 : decode cX1_cutOf 26 = .ok (.lmul, 1) := by decide +kernel
theorem dX1_cutOf_27 : decode cX1_cutOf 27 = .ok (.lload_n 2, 1) := by decide +kernel
theorem dX1_cutOf_28 : decode cX1_cutOf 28 = .ok (.ldiv, 1) := by decide +kernel
theorem dX1_cutOf_29 : decode cX1_cutOf 29 = .ok (.lreturn, 1) := by decide +kernel
set_option maxRecDepth 20000 in
theorem dX1_restOf_0 : decode cX1_restOf 0 = .ok (.aload_n 0, 1) := by decide +kernel
theorem dX1_restOf_1 : decode cX1_restOf 1 = .ok (.invokevirtual 49, 3) := by decide +kernel
theorem dX1_restOf_4 : decode cX1_restOf 4 = .ok (.lstore_n 2, 1) := by decide +kernel
theorem dX1_restOf_5 : decode cX1_restOf 5 = .ok (.lload_n 2, 1) := by decide +kernel
theorem dX1_restOf_6 : decode cX1_restOf 6 = .ok (.lconst 0, 1) := by decide +kernel
theorem dX1_restOf_7 : decode cX1_restOf 7 = .ok (.lcmp, 1) := by decide +kernel
theorem dX1_restOf_8 : decode cX1_restOf 8 = .ok (.ifCond .gt 7, 3) := by decide +kernel
theorem dX1_restOf_11 : decode cX1_restOf 11 = .ok (.lconst 0, 1) := by decide +kernel
theorem dX1_restOf_12 : decode cX1_restOf 12 = .ok (.goto 17, 3) := by decide +kernel
theorem dX1_restOf_15 : decode cX1_restOf 15 = .ok (.aload_n 0, 1) := by decide +kernel
theorem dX1_restOf_16 : decode cX1_restOf 16 = .ok (.getfield 29, 3) := by decide +kernel
theorem dX1_restOf_19 : decode cX1_restOf 19 = .ok (.i2l, 1) := by decide +kernel
theorem dX1_restOf_20 : decode cX1_restOf 20 = .ok (.aload_n 0, 1) := by decide +kernel
theorem dX1_restOf_21 : decode cX1_restOf 21 = .ok (.iload_n 1, 1) := by decide +kernel
theorem dX1_restOf_22 : decode cX1_restOf 22 = .ok (.invokevirtual 53, 3) := by decide +kernel
theorem dX1_restOf_25 : decode cX1_restOf 25 = .ok (.i2l, 1) := by decide +kernel
theorem dX1_restOf_26 : decode cX1_restOf 26 = .ok (.lmul, 1) := by decide +kernel
theorem dX1_restOf_27 : decode cX1_restOf 27 = .ok (.lload_n 2, 1) := by decide +kernel
theorem dX1_restOf_28 : decode cX1_restOf 28 = .ok (.lrem, 1) := by decide +kernel
theorem dX1_restOf_29 : decode cX1_restOf 29 = .ok (.lreturn, 1) := by decide +kernel
set_option maxRecDepth 20000 in
theorem dX1_placeByRest_0 : decode cX1_placeByRest 0 = .ok (.aload_n 0, 1) := by decide +kernel
theorem dX1_placeByRest_1 : decode cX1_placeByRest 1 = .ok (.iload_n 1, 1) := by decide +kernel
theorem dX1_placeByRest_2 : decode cX1_placeByRest 2 = .ok (.invokevirtual 56, 3) := by decide +kernel
theorem dX1_placeByRest_5 : decode cX1_placeByRest 5 = .ok (.lstore_n 2, 1) := by decide +kernel
theorem dX1_placeByRest_6 : decode cX1_placeByRest 6 = .ok (.iconst 0, 1) := by decide +kernel
theorem dX1_placeByRest_7 : decode cX1_placeByRest 7 = .ok (.istore 4, 2) := by decide +kernel
theorem dX1_placeByRest_9 : decode cX1_placeByRest 9 = .ok (.iconst 0, 1) := by decide +kernel
theorem dX1_placeByRest_10 : decode cX1_placeByRest 10 = .ok (.istore 5, 2) := by decide +kernel
theorem dX1_placeByRest_12 : decode cX1_placeByRest 12 = .ok (.iload 5, 2) := by decide +kernel
theorem dX1_placeByRest_14 : decode cX1_placeByRest 14 = .ok (.iconst 3, 1) := by decide +kernel
theorem dX1_placeByRest_15 : decode cX1_placeByRest 15 = .ok (.if_icmp .ge 40, 3) := by decide +kernel
theorem dX1_placeByRest_18 : decode cX1_placeByRest 18 = .ok (.aload_n 0, 1) := by decide +kernel
theorem dX1_placeByRest_19 : decode cX1_placeByRest 19 = .ok (.iload 5, 2) := by decide +kernel
theorem dX1_placeByRest_21 : decode cX1_placeByRest 21 = .ok (.invokevirtual 56, 3) := by decide +kernel
theorem dX1_placeByRest_24 : decode cX1_placeByRest 24 = .ok (.lstore 6, 2) := by decide +kernel
theorem dX1_placeByRest_26 : decode cX1_placeByRest 26 = .ok (.lload 6, 2) := by decide +kernel
theorem dX1_placeByRest_28 : decode cX1_placeByRest 28 = .ok (.lload_n 2, 1) := by decide +kernel
theorem dX1_placeByRest_29 : decode cX1_placeByRest 29 = .ok (.lcmp, 1) := by decide +kernel
theorem dX1_placeByRest_30 : decode cX1_placeByRest 30 = .ok (.ifCond .gt 16, 3) := by decide +kernel
theorem dX1_placeByRest_33 : decode cX1_placeByRest 33 = .ok (.lload 6, 2) := by decide +kernel
theorem dX1_placeByRest_35 : decode cX1_placeByRest 35 = .ok (.lload_n 2, 1) := by decide +kernel
theorem dX1_placeByRest_36 : decode cX1_placeByRest 36 = .ok (.lcmp, 1) := by decide +kernel
theorem dX1_placeByRest_37 : decode cX1_placeByRest 37 = .ok (.ifCond .ne 12, 3) := by decide +kernel
theorem dX1_placeByRest_40 : decode cX1_placeByRest 40 = .ok (.iload 5, 2) := by decide +kernel
theorem dX1_placeByRest_42 : decode cX1_placeByRest 42 = .ok (.iload_n 1, 1) := by decide +kernel
theorem dX1_placeByRest_43 : decode cX1_placeByRest 43 = .ok (.if_icmp .ge 6, 3) := by decide +kernel
theorem dX1_placeByRest_46 : decode cX1_placeByRest 46 = .ok (.iinc 4 1, 3) := by decide +kernel
theorem dX1_placeByRest_49 : decode cX1_placeByRest 49 = .ok (.iinc 5 1, 3) := by decide +kernel
theorem dX1_placeByRest_52 : decode cX1_placeByRest 52 = .ok (.goto (-40), 3) := by decide +kernel
theorem dX1_placeByRest_55 : decode cX1_placeByRest 55 = .ok (.iload 4, 2) := by decide +kernel
theorem dX1_placeByRest_57 : decode cX1_placeByRest 57 = .ok (.ireturn, 1) := by decide +kernel
set_option maxRecDepth 20000 in
theorem dX1_shareOf_0 : decode cX1_shareOf 0 = .ok (.iload_n 1, 1) := by decide +kernel
theorem dX1_shareOf_1 : decode cX1_shareOf 1 = .ok (.iconst 0, 1) := by decide +kernel
theorem dX1_shareOf_2 : decode cX1_shareOf 2 = .ok (.aload_n 0, 1) := by decide +kernel
theorem dX1_shareOf_3 : decode cX1_shareOf 3 = .ok (.getfield 9, 3) := by decide +kernel
theorem dX1_shareOf_6 : decode cX1_shareOf 6 = .ok (.arraylength, 1) := by decide +kernel
theorem dX1_shareOf_7 : decode cX1_shareOf 7 = .ok (.iconst 1, 1) := by decide +kernel
theorem dX1_shareOf_8 : decode cX1_shareOf 8 = .ok (.isub, 1) := by decide +kernel
theorem dX1_shareOf_9 : decode cX1_shareOf 9 = .ok (.invokestatic 59, 3) := by decide +kernel
theorem dX1_shareOf_12 : decode cX1_shareOf 12 = .ok (.ifCond .eq 12, 3) := by decide +kernel
theorem dX1_shareOf_15 : decode cX1_shareOf 15 = .ok (.aload_n 0, 1) := by decide +kernel
theorem dX1_shareOf_16 : decode cX1_shareOf 16 = .ok (.getfield 9, 3) := by decide +kernel
theorem dX1_shareOf_19 : decode cX1_shareOf 19 = .ok (.iload_n 1, 1) := by decide +kernel
theorem dX1_shareOf_20 : decode cX1_shareOf 20 = .ok (.iaload, 1) := by decide +kernel
theorem dX1_shareOf_21 : decode cX1_shareOf 21 = .ok (.goto 4, 3) := by decide +kernel
theorem dX1_shareOf_24 : decode cX1_shareOf 24 = .ok (.iconst 0, 1) := by decide +kernel
theorem dX1_shareOf_25 : decode cX1_shareOf 25 = .ok (.ireturn, 1) := by decide +kernel
theorem dX1_allShares_0 : decode cX1_allShares 0 = .ok (.lconst 0, 1) := by decide +kernel
theorem dX1_allShares_1 : decode cX1_allShares 1 = .ok (.lstore_n 1, 1) := by decide +kernel
theorem dX1_allShares_2 : decode cX1_allShares 2 = .ok (.iconst 0, 1) := by decide +kernel
theorem dX1_allShares_3 : decode cX1_allShares 3 = .ok (.istore_n 3, 1) := by decide +kernel
theorem dX1_allShares_4 : decode cX1_allShares 4 = .ok (.iload_n 3, 1) := by decide +kernel
theorem dX1_allShares_5 : decode cX1_allShares 5 = .ok (.aload_n 0, 1) := by decide +kernel
theorem dX1_allShares_6 : decode cX1_allShares 6 = .ok (.getfield 9, 3) := by decide +kernel
theorem dX1_allShares_9 : decode cX1_allShares 9 = .ok (.arraylength, 1) := by decide +kernel
theorem dX1_allShares_10 : decode cX1_allShares 10 = .ok (.if_icmp .ge 19, 3) := by decide +kernel
theorem dX1_allShares_13 : decode cX1_allShares 13 = .ok (.lload_n 1, 1) := by decide +kernel
theorem dX1_allShares_14 : decode cX1_allShares 14 = .ok (.aload_n 0, 1) := by decide +kernel
theorem dX1_allShares_15 : decode cX1_allShares 15 = .ok (.getfield 9, 3) := by decide +kernel
theorem dX1_allShares_18 : decode cX1_allShares 18 = .ok (.iload_n 3, 1) := by decide +kernel
theorem dX1_allShares_19 : decode cX1_allShares 19 = .ok (.iaload, 1) := by decide +kernel
theorem dX1_allShares_20 : decode cX1_allShares 20 = .ok (.i2l, 1) := by decide +kernel
theorem dX1_allShares_21 : decode cX1_allShares 21 = .ok (.ladd, 1) := by decide +kernel
theorem dX1_allShares_22 : decode cX1_allShares 22 = .ok (.lstore_n 1, 1) := by decide +kernel
theorem dX1_allShares_23 : decode cX1_allShares 23 = .ok (.iinc 3 1, 3) := by decide +kernel
theorem dX1_allShares_26 : decode cX1_allShares 26 = .ok (.goto (-22), 3) := by decide +kernel
theorem dX1_allShares_29 : decode cX1_allShares 29 = .ok (.lload_n 1, 1) := by decide +kernel
theorem dX1_allShares_30 : decode cX1_allShares 30 = .ok (.lreturn, 1) := by decide +kernel
set_option maxRecDepth 20000 in
theorem dX2_init_0 : decode cX2_init 0 = .ok (.aload_n 0, 1) := by decide +kernel
theorem dX2_init_1 : decode cX2_init 1 = .ok (.invokespecial 3, 3) := by decide +kernel
theorem dX2_init_4 : decode cX2_init 4 = .ok (.aload_n 0, 1) := by decide +kernel
theorem dX2_init_5 : decode cX2_init 5 = .ok (.bipush 51, 2) := by decide +kernel
theorem dX2_init_7 : decode cX2_init 7 = .ok (.newarray .int, 2) := by decide +kernel
theorem dX2_init_9 : decode cX2_init 9 = .ok (.putfield 9, 3) := by decide +kernel
theorem dX2_init_12 : decode cX2_init 12 = .ok (.aload_n 0, 1) := by decide +kernel
theorem dX2_init_13 : decode cX2_init 13 = .ok (.iload_n 1, 1) := by decide +kernel
theorem dX2_init_14 : decode cX2_init 14 = .ok (.putfield 15, 3) := by decide +kernel
theorem dX2_init_17 : decode cX2_init 17 = .ok (.aload_n 0, 1) := by decide +kernel
theorem dX2_init_18 : decode cX2_init 18 = .ok (.iload_n 2, 1) := by decide +kernel
theorem dX2_init_19 : decode cX2_init 19 = .ok (.putfield 19, 3) := by decide +kernel
theorem dX2_init_22 : decode cX2_init 22 = .ok (.aload_n 0, 1) := by decide +kernel
theorem dX2_init_23 : decode cX2_init 23 = .ok (.iload_n 3, 1) := by decide +kernel
theorem dX2_init_24 : decode cX2_init 24 = .ok (.putfield 22, 3) := by decide +kernel
theorem dX2_init_27 : decode cX2_init 27 = .ok (.aload_n 0, 1) := by decide +kernel
theorem dX2_init_28 : decode cX2_init 28 = .ok (.getfield 9, 3) := by decide +kernel
theorem dX2_init_31 : decode cX2_init 31 = .ok (.iload 4, 2) := by decide +kernel
theorem dX2_init_33 : decode cX2_init 33 = .ok (.invokestatic 25, 3) := by decide +kernel
theorem dX2_init_36 : decode cX2_init 36 = .ok (.return_, 1) := by decide +kernel
theorem dX2_sellFrom_0 : decode cX2_sellFrom 0 = .ok (.iload_n 1, 1) := by decide +kernel
theorem dX2_sellFrom_1 : decode cX2_sellFrom 1 = .ok (.iconst 0, 1) := by decide +kernel
theorem dX2_sellFrom_2 : decode cX2_sellFrom 2 = .ok (.invokestatic 31, 3) := by decide +kernel
theorem dX2_sellFrom_5 : decode cX2_sellFrom 5 = .ok (.istore_n 3, 1) := by decide +kernel
theorem dX2_sellFrom_6 : decode cX2_sellFrom 6 = .ok (.iload_n 3, 1) := by decide +kernel
theorem dX2_sellFrom_7 : decode cX2_sellFrom 7 = .ok (.aload_n 0, 1) := by decide +kernel
theorem dX2_sellFrom_8 : decode cX2_sellFrom 8 = .ok (.getfield 9, 3) := by decide +kernel
theorem dX2_sellFrom_11 : decode cX2_sellFrom 11 = .ok (.arraylength, 1) := by decide +kernel
theorem dX2_sellFrom_12 : decode cX2_sellFrom 12 = .ok (.if_icmp .ge 16, 3) := by decide +kernel
theorem dX2_sellFrom_15 : decode cX2_sellFrom 15 = .ok (.aload_n 0, 1) := by decide +kernel
theorem dX2_sellFrom_16 : decode cX2_sellFrom 16 = .ok (.getfield 9, 3) := by decide +kernel
theorem dX2_sellFrom_19 : decode cX2_sellFrom 19 = .ok (.iload_n 3, 1) := by decide +kernel
theorem dX2_sellFrom_20 : decode cX2_sellFrom 20 = .ok (.iload_n 2, 1) := by decide +kernel
theorem dX2_sellFrom_21 : decode cX2_sellFrom 21 = .ok (.iastore, 1) := by decide +kernel
theorem dX2_sellFrom_22 : decode cX2_sellFrom 22 = .ok (.iinc 3 1, 3) := by decide +kernel
theorem dX2_sellFrom_25 : decode cX2_sellFrom 25 = .ok (.goto (-19), 3) := by decide +kernel
theorem dX2_sellFrom_28 : decode cX2_sellFrom 28 = .ok (.return_, 1) := by decide +kernel
set_option maxRecDepth 20000 in
theorem dX2_putRight_0 : decode cX2_putRight 0 = .ok (.iload_n 1, 1) := by decide +kernel
theorem dX2_putRight_1 : decode cX2_putRight 1 = .ok (.iconst 0, 1) := by decide +kernel
theorem dX2_putRight_2 : decode cX2_putRight 2 = .ok (.aload_n 0, 1) := by decide +kernel
theorem dX2_putRight_3 : decode cX2_putRight 3 = .ok (.getfield 9, 3) := by decide +kernel
theorem dX2_putRight_6 : decode cX2_putRight 6 = .ok (.arraylength, 1) := by decide +kernel
theorem dX2_putRight_7 : decode cX2_putRight 7 = .ok (.iconst 1, 1) := by decide +kernel
theorem dX2_putRight_8 : decode cX2_putRight 8 = .ok (.isub, 1) := by decide +kernel
theorem dX2_putRight_9 : decode cX2_putRight 9 = .ok (.invokestatic 37, 3) := by decide +kernel
theorem dX2_putRight_12 : decode cX2_putRight 12 = .ok (.ifCond .eq 10, 3) := by decide +kernel
theorem dX2_putRight_15 : decode cX2_putRight 15 = .ok (.aload_n 0, 1) := by decide +kernel
theorem dX2_putRight_16 : decode cX2_putRight 16 = .ok (.getfield 9, 3) := by decide +kernel
theorem dX2_putRight_19 : decode cX2_putRight 19 = .ok (.iload_n 1, 1) := by decide +kernel
theorem dX2_putRight_20 : decode cX2_putRight 20 = .ok (.iload_n 2, 1) := by decide +kernel
theorem dX2_putRight_21 : decode cX2_putRight 21 = .ok (.iastore, 1) := by decide +kernel
theorem dX2_putRight_22 : decode cX2_putRight 22 = .ok (.return_, 1) := by decide +kernel
set_option maxRecDepth 20000 in
theorem dX2_soldIn_0 : decode cX2_soldIn 0 = .ok (.iload_n 1, 1) := by decide +kernel
theorem dX2_soldIn_1 : decode cX2_soldIn 1 = .ok (.iconst 0, 1) := by decide +kernel
theorem dX2_soldIn_2 : decode cX2_soldIn 2 = .ok (.aload_n 0, 1) := by decide +kernel
theorem dX2_soldIn_3 : decode cX2_soldIn 3 = .ok (.getfield 9, 3) := by decide +kernel
theorem dX2_soldIn_6 : decode cX2_soldIn 6 = .ok (.arraylength, 1) := by decide +kernel
theorem dX2_soldIn_7 : decode cX2_soldIn 7 = .ok (.iconst 1, 1) := by decide +kernel
theorem dX2_soldIn_8 : decode cX2_soldIn 8 = .ok (.isub, 1) := by decide +kernel
theorem dX2_soldIn_9 : decode cX2_soldIn 9 = .ok (.invokestatic 37, 3) := by decide +kernel
theorem dX2_soldIn_12 : decode cX2_soldIn 12 = .ok (.ifCond .eq 12, 3) := by decide +kernel
theorem dX2_soldIn_15 : decode cX2_soldIn 15 = .ok (.aload_n 0, 1) := by decide +kernel
theorem dX2_soldIn_16 : decode cX2_soldIn 16 = .ok (.getfield 9, 3) := by decide +kernel
theorem dX2_soldIn_19 : decode cX2_soldIn 19 = .ok (.iload_n 1, 1) := by decide +kernel
theorem dX2_soldIn_20 : decode cX2_soldIn 20 = .ok (.iaload, 1) := by decide +kernel
theorem dX2_soldIn_21 : decode cX2_soldIn 21 = .ok (.goto 4, 3) := by decide +kernel
theorem dX2_soldIn_24 : decode cX2_soldIn 24 = .ok (.iconst 0, 1) := by decide +kernel
theorem dX2_soldIn_25 : decode cX2_soldIn 25 = .ok (.ireturn, 1) := by decide +kernel
theorem dX2_isNearer_0 : decode cX2_isNearer 0 = .ok (.aload_n 0, 1) := by decide +kernel
theorem dX2_isNearer_1 : decode cX2_isNearer 1 = .ok (.getfield 19, 3) := by decide +kernel
theorem dX2_isNearer_4 : decode cX2_isNearer 4 = .ok (.aload_n 1, 1) := by decide +kernel
theorem dX2_isNearer_5 : decode cX2_isNearer 5 = .ok (.getfield 19, 3) := by decide +kernel
theorem dX2_isNearer_8 : decode cX2_isNearer 8 = .ok (.isub, 1) := by decide +kernel
theorem dX2_isNearer_9 : decode cX2_isNearer 9 = .ok (.istore_n 3, 1) := by decide +kernel
theorem dX2_isNearer_10 : decode cX2_isNearer 10 = .ok (.aload_n 0, 1) := by decide +kernel
theorem dX2_isNearer_11 : decode cX2_isNearer 11 = .ok (.getfield 22, 3) := by decide +kernel
theorem dX2_isNearer_14 : decode cX2_isNearer 14 = .ok (.aload_n 1, 1) := by decide +kernel
theorem dX2_isNearer_15 : decode cX2_isNearer 15 = .ok (.getfield 22, 3) := by decide +kernel
theorem dX2_isNearer_18 : decode cX2_isNearer 18 = .ok (.isub, 1) := by decide +kernel
theorem dX2_isNearer_19 : decode cX2_isNearer 19 = .ok (.istore 4, 2) := by decide +kernel
theorem dX2_isNearer_21 : decode cX2_isNearer 21 = .ok (.iload_n 3, 1) := by decide +kernel
theorem dX2_isNearer_22 : decode cX2_isNearer 22 = .ok (.iload_n 3, 1) := by decide +kernel
theorem dX2_isNearer_23 : decode cX2_isNearer 23 = .ok (.imul, 1) := by decide +kernel
theorem dX2_isNearer_24 : decode cX2_isNearer 24 = .ok (.iload 4, 2) := by decide +kernel
theorem dX2_isNearer_26 : decode cX2_isNearer 26 = .ok (.iload 4, 2) := by decide +kernel
theorem dX2_isNearer_28 : decode cX2_isNearer 28 = .ok (.imul, 1) := by decide +kernel
theorem dX2_isNearer_29 : decode cX2_isNearer 29 = .ok (.iadd, 1) := by decide +kernel
theorem dX2_isNearer_30 : decode cX2_isNearer 30 = .ok (.iload_n 2, 1) := by decide +kernel
theorem dX2_isNearer_31 : decode cX2_isNearer 31 = .ok (.iload_n 2, 1) := by decide +kernel
theorem dX2_isNearer_32 : decode cX2_isNearer 32 = .ok (.imul, 1) := by decide +kernel
theorem dX2_isNearer_33 : decode cX2_isNearer 33 = .ok (.if_icmp .ge 7, 3) := by decide +kernel
theorem dX2_isNearer_36 : decode cX2_isNearer 36 = .ok (.iconst 1, 1) := by decide +kernel
theorem dX2_isNearer_37 : decode cX2_isNearer 37 = .ok (.goto 4, 3) := by decide +kernel
theorem dX2_isNearer_40 : decode cX2_isNearer 40 = .ok (.iconst 0, 1) := by decide +kernel
theorem dX2_isNearer_41 : decode cX2_isNearer 41 = .ok (.ireturn, 1) := by decide +kernel
theorem dX3_init_0 : decode cX3_init 0 = .ok (.aload_n 0, 1) := by decide +kernel
theorem dX3_init_1 : decode cX3_init 1 = .ok (.invokespecial 1, 3) := by decide +kernel
theorem dX3_init_4 : decode cX3_init 4 = .ok (.aload_n 0, 1) := by decide +kernel
theorem dX3_init_5 : decode cX3_init 5 = .ok (.aload_n 1, 1) := by decide +kernel
theorem dX3_init_6 : decode cX3_init 6 = .ok (.putfield 7, 3) := by decide +kernel
theorem dX3_init_9 : decode cX3_init 9 = .ok (.aload_n 0, 1) := by decide +kernel
theorem dX3_init_10 : decode cX3_init 10 = .ok (.iload_n 2, 1) := by decide +kernel
theorem dX3_init_11 : decode cX3_init 11 = .ok (.putfield 13, 3) := by decide +kernel
theorem dX3_init_14 : decode cX3_init 14 = .ok (.return_, 1) := by decide +kernel
theorem dX4_init_0 : decode cX4_init 0 = .ok (.aload_n 0, 1) := by decide +kernel
theorem dX4_init_1 : decode cX4_init 1 = .ok (.invokespecial 3, 3) := by decide +kernel
theorem dX4_init_4 : decode cX4_init 4 = .ok (.aload_n 0, 1) := by decide +kernel
theorem dX4_init_5 : decode cX4_init 5 = .ok (.iconst 5, 1) := by decide +kernel
theorem dX4_init_6 : decode cX4_init 6 = .ok (.newarray .int, 2) := by decide +kernel
theorem dX4_init_8 : decode cX4_init 8 = .ok (.putfield 9, 3) := by decide +kernel
theorem dX4_init_11 : decode cX4_init 11 = .ok (.aload_n 0, 1) := by decide +kernel
theorem dX4_init_12 : decode cX4_init 12 = .ok (.bipush 32, 2) := by decide +kernel
theorem dX4_init_14 : decode cX4_init 14 = .ok (.newarray .int, 2) := by decide +kernel
theorem dX4_init_16 : decode cX4_init 16 = .ok (.putfield 15, 3) := by decide +kernel
theorem dX4_init_19 : decode cX4_init 19 = .ok (.aload_n 0, 1) := by decide +kernel
theorem dX4_init_20 : decode cX4_init 20 = .ok (.iconst 0, 1) := by decide +kernel
theorem dX4_init_21 : decode cX4_init 21 = .ok (.putfield 18, 3) := by decide +kernel
theorem dX4_init_24 : decode cX4_init 24 = .ok (.return_, 1) := by decide +kernel
set_option maxRecDepth 20000 in
theorem dX4_tell_0 : decode cX4_tell 0 = .ok (.iload_n 1, 1) := by decide +kernel
theorem dX4_tell_1 : decode cX4_tell 1 = .ok (.sipush 10000, 3) := by decide +kernel
theorem dX4_tell_4 : decode cX4_tell 4 = .ok (.sipush 10000, 3) := by decide +kernel
theorem dX4_tell_7 : decode cX4_tell 7 = .ok (.aload_n 0, 1) := by decide +kernel
theorem dX4_tell_8 : decode cX4_tell 8 = .ok (.getfield 9, 3) := by decide +kernel
theorem dX4_tell_11 : decode cX4_tell 11 = .ok (.arraylength, 1) := by decide +kernel
theorem dX4_tell_12 : decode cX4_tell 12 = .ok (.iadd, 1) := by decide +kernel
theorem dX4_tell_13 : decode cX4_tell 13 = .ok (.iconst 1, 1) := by decide +kernel
theorem dX4_tell_14 : decode cX4_tell 14 = .ok (.isub, 1) := by decide +kernel
theorem dX4_tell_15 : decode cX4_tell 15 = .ok (.invokestatic 22, 3) := by decide +kernel
theorem dX4_tell_18 : decode cX4_tell 18 = .ok (.ifCond .eq 14, 3) := by decide +kernel
theorem dX4_tell_21 : decode cX4_tell 21 = .ok (.aload_n 0, 1) := by decide +kernel
theorem dX4_tell_22 : decode cX4_tell 22 = .ok (.getfield 9, 3) := by decide +kernel
theorem dX4_tell_25 : decode cX4_tell 25 = .ok (.iload_n 1, 1) := by decide +kernel
theorem dX4_tell_26 : decode cX4_tell 26 = .ok (.sipush 10000, 3) := by decide +kernel
theorem dX4_tell_29 : decode cX4_tell 29 = .ok (.isub, 1) := by decide +kernel
theorem dX4_tell_30 : decode cX4_tell 30 = .ok (.iload_n 2, 1) := by decide +kernel
theorem dX4_tell_31 : decode cX4_tell 31 = .ok (.iastore, 1) := by decide +kernel
theorem dX4_tell_32 : decode cX4_tell 32 = .ok (.return_, 1) := by decide +kernel
set_option maxRecDepth 20000 in
theorem dX4_rateBy_0 : decode cX4_rateBy 0 = .ok (.aload_n 0, 1) := by decide +kernel
theorem dX4_rateBy_1 : decode cX4_rateBy 1 = .ok (.iconst 0, 1) := by decide +kernel
theorem dX4_rateBy_2 : decode cX4_rateBy 2 = .ok (.putfield 18, 3) := by decide +kernel
theorem dX4_rateBy_5 : decode cX4_rateBy 5 = .ok (.iconst 0, 1) := by decide +kernel
theorem dX4_rateBy_6 : decode cX4_rateBy 6 = .ok (.istore_n 2, 1) := by decide +kernel
theorem dX4_rateBy_7 : decode cX4_rateBy 7 = .ok (.iload_n 2, 1) := by decide +kernel
theorem dX4_rateBy_8 : decode cX4_rateBy 8 = .ok (.aload_n 1, 1) := by decide +kernel
theorem dX4_rateBy_9 : decode cX4_rateBy 9 = .ok (.getfield 26, 3) := by decide +kernel
theorem dX4_rateBy_12 : decode cX4_rateBy 12 = .ok (.arraylength, 1) := by decide +kernel
theorem dX4_rateBy_13 : decode cX4_rateBy 13 = .ok (.if_icmp .ge 44, 3) := by decide +kernel
theorem dX4_rateBy_16 : decode cX4_rateBy 16 = .ok (.aload_n 1, 1) := by decide +kernel
theorem dX4_rateBy_17 : decode cX4_rateBy 17 = .ok (.getfield 26, 3) := by decide +kernel
theorem dX4_rateBy_20 : decode cX4_rateBy 20 = .ok (.iload_n 2, 1) := by decide +kernel
theorem dX4_rateBy_21 : decode cX4_rateBy 21 = .ok (.iaload, 1) := by decide +kernel
theorem dX4_rateBy_22 : decode cX4_rateBy 22 = .ok (.istore_n 3, 1) := by decide +kernel
theorem dX4_rateBy_23 : decode cX4_rateBy 23 = .ok (.iload_n 3, 1) := by decide +kernel
theorem dX4_rateBy_24 : decode cX4_rateBy 24 = .ok (.sipush 20000, 3) := by decide +kernel
theorem dX4_rateBy_27 : decode cX4_rateBy 27 = .ok (.if_icmp .ge 11, 3) := by decide +kernel
theorem dX4_rateBy_30 : decode cX4_rateBy 30 = .ok (.aload_n 0, 1) := by decide +kernel
theorem dX4_rateBy_31 : decode cX4_rateBy 31 = .ok (.iload_n 3, 1) := by decide +kernel
theorem dX4_rateBy_32 : decode cX4_rateBy 32 = .ok (.invokevirtual 31, 3) := by decide +kernel
theorem dX4_rateBy_35 : decode cX4_rateBy 35 = .ok (.goto 16, 3) := by decide +kernel
theorem dX4_rateBy_38 : decode cX4_rateBy 38 = .ok (.aload_n 0, 1) := by decide +kernel
theorem dX4_rateBy_39 : decode cX4_rateBy 39 = .ok (.invokevirtual 35, 3) := by decide +kernel
theorem dX4_rateBy_42 : decode cX4_rateBy 42 = .ok (.ifCond .eq 9, 3) := by decide +kernel
theorem dX4_rateBy_45 : decode cX4_rateBy 45 = .ok (.iload_n 3, 1) := by decide +kernel
theorem dX4_rateBy_46 : decode cX4_rateBy 46 = .ok (.sipush 20000, 3) := by decide +kernel
theorem dX4_rateBy_49 : decode cX4_rateBy 49 = .ok (.isub, 1) := by decide +kernel
theorem dX4_rateBy_50 : decode cX4_rateBy 50 = .ok (.ireturn, 1) := by decide +kernel
theorem dX4_rateBy_51 : decode cX4_rateBy 51 = .ok (.iinc 2 1, 3) := by decide +kernel
theorem dX4_rateBy_54 : decode cX4_rateBy 54 = .ok (.goto (-47), 3) := by decide +kernel
theorem dX4_rateBy_57 : decode cX4_rateBy 57 = .ok (.iconst 0, 1) := by decide +kernel
theorem dX4_rateBy_58 : decode cX4_rateBy 58 = .ok (.ireturn, 1) := by decide +kernel
set_option maxRecDepth 20000 in
theorem dX4_take_0 : decode cX4_take 0 = .ok (.iload_n 1, 1) := by decide +kernel
theorem dX4_take_1 : decode cX4_take 1 = .ok (.sipush 10000, 3) := by decide +kernel
theorem dX4_take_4 : decode cX4_take 4 = .ok (.if_icmp .ge 11, 3) := by decide +kernel
theorem dX4_take_7 : decode cX4_take 7 = .ok (.aload_n 0, 1) := by decide +kernel
theorem dX4_take_8 : decode cX4_take 8 = .ok (.iload_n 1, 1) := by decide +kernel
theorem dX4_take_9 : decode cX4_take 9 = .ok (.invokevirtual 39, 3) := by decide +kernel
theorem dX4_take_12 : decode cX4_take 12 = .ok (.goto 53, 3) := by decide +kernel
theorem dX4_take_15 : decode cX4_take 15 = .ok (.iload_n 1, 1) := by decide +kernel
theorem dX4_take_16 : decode cX4_take 16 = .ok (.sipush 10000, 3) := by decide +kernel
theorem dX4_take_19 : decode cX4_take 19 = .ok (.aload_n 0, 1) := by decide +kernel
theorem dX4_take_20 : decode cX4_take 20 = .ok (.getfield 9, 3) := by decide +kernel
theorem dX4_take_23 : decode cX4_take 23 = .ok (.arraylength, 1) := by decide +kernel
theorem dX4_take_24 : decode cX4_take 24 = .ok (.iadd, 1) := by decide +kernel
theorem dX4_take_25 : decode cX4_take 25 = .ok (.if_icmp .ge 20, 3) := by decide +kernel
theorem dX4_take_28 : decode cX4_take 28 = .ok (.aload_n 0, 1) := by decide +kernel
theorem dX4_take_29 : decode cX4_take 29 = .ok (.aload_n 0, 1) := by decide +kernel
theorem dX4_take_30 : decode cX4_take 30 = .ok (.getfield 9, 3) := by decide +kernel
theorem dX4_take_33 : decode cX4_take 33 = .ok (.iload_n 1, 1) := by decide +kernel
theorem dX4_take_34 : decode cX4_take 34 = .ok (.sipush 10000, 3) := by decide +kernel
theorem dX4_take_37 : decode cX4_take 37 = .ok (.isub, 1) := by decide +kernel
theorem dX4_take_38 : decode cX4_take 38 = .ok (.iaload, 1) := by decide +kernel
theorem dX4_take_39 : decode cX4_take 39 = .ok (.invokevirtual 39, 3) := by decide +kernel
theorem dX4_take_42 : decode cX4_take 42 = .ok (.goto 23, 3) := by decide +kernel
theorem dX4_take_45 : decode cX4_take 45 = .ok (.aload_n 0, 1) := by decide +kernel
theorem dX4_take_46 : decode cX4_take 46 = .ok (.invokevirtual 35, 3) := by decide +kernel
theorem dX4_take_49 : decode cX4_take 49 = .ok (.istore_n 2, 1) := by decide +kernel
theorem dX4_take_50 : decode cX4_take 50 = .ok (.aload_n 0, 1) := by decide +kernel
theorem dX4_take_51 : decode cX4_take 51 = .ok (.invokevirtual 35, 3) := by decide +kernel
theorem dX4_take_54 : decode cX4_take 54 = .ok (.istore_n 3, 1) := by decide +kernel
theorem dX4_take_55 : decode cX4_take 55 = .ok (.aload_n 0, 1) := by decide +kernel
theorem dX4_take_56 : decode cX4_take 56 = .ok (.iload_n 1, 1) := by decide +kernel
theorem dX4_take_57 : decode cX4_take 57 = .ok (.iload_n 3, 1) := by decide +kernel
theorem dX4_take_58 : decode cX4_take 58 = .ok (.iload_n 2, 1) := by decide +kernel
theorem dX4_take_59 : decode cX4_take 59 = .ok (.invokestatic 42, 3) := by decide +kernel
theorem dX4_take_62 : decode cX4_take 62 = .ok (.invokevirtual 39, 3) := by decide +kernel
theorem dX4_take_65 : decode cX4_take 65 = .ok (.return_, 1) := by decide +kernel
theorem dX4_join_0 : decode cX4_join 0 = .ok (.iload_n 0, 1) := by decide +kernel
theorem dX4_join_1 : decode cX4_join 1 = .ok (.tableswitch 61 10010 10013 #[31, 35, 39, 50], 31) := by decide +kernel
theorem dX4_join_32 : decode cX4_join 32 = .ok (.iload_n 1, 1) := by decide +kernel
theorem dX4_join_33 : decode cX4_join 33 = .ok (.iload_n 2, 1) := by decide +kernel
theorem dX4_join_34 : decode cX4_join 34 = .ok (.iadd, 1) := by decide +kernel
theorem dX4_join_35 : decode cX4_join 35 = .ok (.ireturn, 1) := by decide +kernel
theorem dX4_join_36 : decode cX4_join 36 = .ok (.iload_n 1, 1) := by decide +kernel
theorem dX4_join_37 : decode cX4_join 37 = .ok (.iload_n 2, 1) := by decide +kernel
theorem dX4_join_38 : decode cX4_join 38 = .ok (.isub, 1) := by decide +kernel
theorem dX4_join_39 : decode cX4_join 39 = .ok (.ireturn, 1) := by decide +kernel
theorem dX4_join_40 : decode cX4_join 40 = .ok (.iload_n 1, 1) := by decide +kernel
theorem dX4_join_41 : decode cX4_join 41 = .ok (.iload_n 2, 1) := by decide +kernel
theorem dX4_join_42 : decode cX4_join 42 = .ok (.if_icmp .ge 7, 3) := by decide +kernel
theorem dX4_join_45 : decode cX4_join 45 = .ok (.iconst 1, 1) := by decide +kernel
theorem dX4_join_46 : decode cX4_join 46 = .ok (.goto 4, 3) := by decide +kernel
theorem dX4_join_49 : decode cX4_join 49 = .ok (.iconst 0, 1) := by decide +kernel
theorem dX4_join_50 : decode cX4_join 50 = .ok (.ireturn, 1) := by decide +kernel
theorem dX4_join_51 : decode cX4_join 51 = .ok (.iload_n 1, 1) := by decide +kernel
theorem dX4_join_52 : decode cX4_join 52 = .ok (.iload_n 2, 1) := by decide +kernel
theorem dX4_join_53 : decode cX4_join 53 = .ok (.if_icmp .ne 7, 3) := by decide +kernel
theorem dX4_join_56 : decode cX4_join 56 = .ok (.iconst 1, 1) := by decide +kernel
theorem dX4_join_57 : decode cX4_join 57 = .ok (.goto 4, 3) := by decide +kernel
theorem dX4_join_60 : decode cX4_join 60 = .ok (.iconst 0, 1) := by decide +kernel
theorem dX4_join_61 : decode cX4_join 61 = .ok (.ireturn, 1) := by decide +kernel
theorem dX4_join_62 : decode cX4_join 62 = .ok (.iload_n 1, 1) := by decide +kernel
theorem dX4_join_63 : decode cX4_join 63 = .ok (.ifCond .eq 11, 3) := by decide +kernel
theorem dX4_join_66 : decode cX4_join 66 = .ok (.iload_n 2, 1) := by decide +kernel
theorem dX4_join_67 : decode cX4_join 67 = .ok (.ifCond .eq 7, 3) := by decide +kernel
theorem dX4_join_70 : decode cX4_join 70 = .ok (.iconst 1, 1) := by decide +kernel
theorem dX4_join_71 : decode cX4_join 71 = .ok (.goto 4, 3) := by decide +kernel
theorem dX4_join_74 : decode cX4_join 74 = .ok (.iconst 0, 1) := by decide +kernel
theorem dX4_join_75 : decode cX4_join 75 = .ok (.ireturn, 1) := by decide +kernel
theorem dX4_push_0 : decode cX4_push 0 = .ok (.aload_n 0, 1) := by decide +kernel
theorem dX4_push_1 : decode cX4_push 1 = .ok (.getfield 18, 3) := by decide +kernel
theorem dX4_push_4 : decode cX4_push 4 = .ok (.ifCond .lt 35, 3) := by decide +kernel
theorem dX4_push_7 : decode cX4_push 7 = .ok (.aload_n 0, 1) := by decide +kernel
theorem dX4_push_8 : decode cX4_push 8 = .ok (.getfield 18, 3) := by decide +kernel
theorem dX4_push_11 : decode cX4_push 11 = .ok (.aload_n 0, 1) := by decide +kernel
theorem dX4_push_12 : decode cX4_push 12 = .ok (.getfield 15, 3) := by decide +kernel
theorem dX4_push_15 : decode cX4_push 15 = .ok (.arraylength, 1) := by decide +kernel
theorem dX4_push_16 : decode cX4_push 16 = .ok (.if_icmp .ge 23, 3) := by decide +kernel
theorem dX4_push_19 : decode cX4_push 19 = .ok (.aload_n 0, 1) := by decide +kernel
theorem dX4_push_20 : decode cX4_push 20 = .ok (.getfield 15, 3) := by decide +kernel
theorem dX4_push_23 : decode cX4_push 23 = .ok (.aload_n 0, 1) := by decide +kernel
theorem dX4_push_24 : decode cX4_push 24 = .ok (.getfield 18, 3) := by decide +kernel
theorem dX4_push_27 : decode cX4_push 27 = .ok (.iload_n 1, 1) := by decide +kernel
theorem dX4_push_28 : decode cX4_push 28 = .ok (.iastore, 1) := by decide +kernel
theorem dX4_push_29 : decode cX4_push 29 = .ok (.aload_n 0, 1) := by decide +kernel
theorem dX4_push_30 : decode cX4_push 30 = .ok (.dup, 1) := by decide +kernel
theorem dX4_push_31 : decode cX4_push 31 = .ok (.getfield 18, 3) := by decide +kernel
theorem dX4_push_34 : decode cX4_push 34 = .ok (.iconst 1, 1) := by decide +kernel
theorem dX4_push_35 : decode cX4_push 35 = .ok (.iadd, 1) := by decide +kernel
theorem dX4_push_36 : decode cX4_push 36 = .ok (.putfield 18, 3) := by decide +kernel
theorem dX4_push_39 : decode cX4_push 39 = .ok (.return_, 1) := by decide +kernel
theorem dX4_pop_0 : decode cX4_pop 0 = .ok (.aload_n 0, 1) := by decide +kernel
theorem dX4_pop_1 : decode cX4_pop 1 = .ok (.getfield 18, 3) := by decide +kernel
theorem dX4_pop_4 : decode cX4_pop 4 = .ok (.ifCond .le 15, 3) := by decide +kernel
theorem dX4_pop_7 : decode cX4_pop 7 = .ok (.aload_n 0, 1) := by decide +kernel
theorem dX4_pop_8 : decode cX4_pop 8 = .ok (.getfield 18, 3) := by decide +kernel
theorem dX4_pop_11 : decode cX4_pop 11 = .ok (.aload_n 0, 1) := by decide +kernel
theorem dX4_pop_12 : decode cX4_pop 12 = .ok (.getfield 15, 3) := by decide +kernel
theorem dX4_pop_15 : decode cX4_pop 15 = .ok (.arraylength, 1) := by decide +kernel
theorem dX4_pop_16 : decode cX4_pop 16 = .ok (.if_icmp .le 5, 3) := by decide +kernel
theorem dX4_pop_19 : decode cX4_pop 19 = .ok (.iconst 0, 1) := by decide +kernel
theorem dX4_pop_20 : decode cX4_pop 20 = .ok (.ireturn, 1) := by decide +kernel
theorem dX4_pop_21 : decode cX4_pop 21 = .ok (.aload_n 0, 1) := by decide +kernel
theorem dX4_pop_22 : decode cX4_pop 22 = .ok (.dup, 1) := by decide +kernel
theorem dX4_pop_23 : decode cX4_pop 23 = .ok (.getfield 18, 3) := by decide +kernel
theorem dX4_pop_26 : decode cX4_pop 26 = .ok (.iconst 1, 1) := by decide +kernel
theorem dX4_pop_27 : decode cX4_pop 27 = .ok (.isub, 1) := by decide +kernel
theorem dX4_pop_28 : decode cX4_pop 28 = .ok (.putfield 18, 3) := by decide +kernel
theorem dX4_pop_31 : decode cX4_pop 31 = .ok (.aload_n 0, 1) := by decide +kernel
theorem dX4_pop_32 : decode cX4_pop 32 = .ok (.getfield 15, 3) := by decide +kernel
theorem dX4_pop_35 : decode cX4_pop 35 = .ok (.aload_n 0, 1) := by decide +kernel
theorem dX4_pop_36 : decode cX4_pop 36 = .ok (.getfield 18, 3) := by decide +kernel
theorem dX4_pop_39 : decode cX4_pop 39 = .ok (.iaload, 1) := by decide +kernel
theorem dX4_pop_40 : decode cX4_pop 40 = .ok (.ireturn, 1) := by decide +kernel
theorem dX5_init_0 : decode cX5_init 0 = .ok (.aload_n 0, 1) := by decide +kernel
theorem dX5_init_1 : decode cX5_init 1 = .ok (.invokespecial 3, 3) := by decide +kernel
theorem dX5_init_4 : decode cX5_init 4 = .ok (.aload_n 0, 1) := by decide +kernel
theorem dX5_init_5 : decode cX5_init 5 = .ok (.sipush 600, 3) := by decide +kernel
theorem dX5_init_8 : decode cX5_init 8 = .ok (.newarray .byte, 2) := by decide +kernel
theorem dX5_init_10 : decode cX5_init 10 = .ok (.putfield 9, 3) := by decide +kernel
theorem dX5_init_13 : decode cX5_init 13 = .ok (.aload_n 0, 1) := by decide +kernel
theorem dX5_init_14 : decode cX5_init 14 = .ok (.iconst 0, 1) := by decide +kernel
theorem dX5_init_15 : decode cX5_init 15 = .ok (.putfield 15, 3) := by decide +kernel
theorem dX5_init_18 : decode cX5_init 18 = .ok (.return_, 1) := by decide +kernel
set_option maxRecDepth 20000 in
theorem dX5_addBytes_0 : decode cX5_addBytes 0 = .ok (.bipush 56, 2) := by decide +kernel
theorem dX5_addBytes_2 : decode cX5_addBytes 2 = .ok (.istore_n 3, 1) := by decide +kernel
theorem dX5_addBytes_3 : decode cX5_addBytes 3 = .ok (.iload_n 3, 1) := by decide +kernel
theorem dX5_addBytes_4 : decode cX5_addBytes 4 = .ok (.ifCond .lt 21, 3) := by decide +kernel
theorem dX5_addBytes_7 : decode cX5_addBytes 7 = .ok (.aload_n 0, 1) := by decide +kernel
theorem dX5_addBytes_8 : decode cX5_addBytes 8 = .ok (.lload_n 1, 1) := by decide +kernel
theorem dX5_addBytes_9 : decode cX5_addBytes 9 = .ok (.iload_n 3, 1) := by decide +kernel
theorem dX5_addBytes_10 : decode cX5_addBytes 10 = .ok (.lushr, 1) := by decide +kernel
theorem dX5_addBytes_11 : decode cX5_addBytes 11 = .ok (.l2i, 1) := by decide +kernel
theorem dX5_addBytes_12 : decode cX5_addBytes 12 = .ok (.sipush 255, 3) := by decide +kernel
theorem dX5_addBytes_15 : decode cX5_addBytes 15 = .ok (.iand, 1) := by decide +kernel
theorem dX5_addBytes_16 : decode cX5_addBytes 16 = .ok (.invokevirtual 19, 3) := by decide +kernel
theorem dX5_addBytes_19 : decode cX5_addBytes 19 = .ok (.iinc 3 (-8), 3) := by decide +kernel
theorem dX5_addBytes_22 : decode cX5_addBytes 22 = .ok (.goto (-19), 3) := by decide +kernel
theorem dX5_addBytes_25 : decode cX5_addBytes 25 = .ok (.return_, 1) := by decide +kernel
set_option maxRecDepth 20000 in
theorem dX5_addSign_0 : decode cX5_addSign 0 = .ok (.iload_n 1, 1) := by decide +kernel
theorem dX5_addSign_1 : decode cX5_addSign 1 = .ok (.bipush 10, 2) := by decide +kernel
theorem dX5_addSign_3 : decode cX5_addSign 3 = .ok (.if_icmp .eq 14, 3) := by decide +kernel
theorem dX5_addSign_6 : decode cX5_addSign 6 = .ok (.iload_n 1, 1) := by decide +kernel
theorem dX5_addSign_7 : decode cX5_addSign 7 = .ok (.bipush 32, 2) := by decide +kernel
theorem dX5_addSign_9 : decode cX5_addSign 9 = .ok (.bipush 126, 2) := by decide +kernel
theorem dX5_addSign_11 : decode cX5_addSign 11 = .ok (.invokestatic 23, 3) := by decide +kernel
theorem dX5_addSign_14 : decode cX5_addSign 14 = .ok (.ifCond .eq 7, 3) := by decide +kernel
theorem dX5_addSign_17 : decode cX5_addSign 17 = .ok (.iconst 1, 1) := by decide +kernel
theorem dX5_addSign_18 : decode cX5_addSign 18 = .ok (.goto 4, 3) := by decide +kernel
theorem dX5_addSign_21 : decode cX5_addSign 21 = .ok (.iconst 0, 1) := by decide +kernel
theorem dX5_addSign_22 : decode cX5_addSign 22 = .ok (.istore_n 2, 1) := by decide +kernel
theorem dX5_addSign_23 : decode cX5_addSign 23 = .ok (.iload_n 2, 1) := by decide +kernel
theorem dX5_addSign_24 : decode cX5_addSign 24 = .ok (.ifCond .eq 36, 3) := by decide +kernel
theorem dX5_addSign_27 : decode cX5_addSign 27 = .ok (.aload_n 0, 1) := by decide +kernel
theorem dX5_addSign_28 : decode cX5_addSign 28 = .ok (.getfield 15, 3) := by decide +kernel
theorem dX5_addSign_31 : decode cX5_addSign 31 = .ok (.aload_n 0, 1) := by decide +kernel
theorem dX5_addSign_32 : decode cX5_addSign 32 = .ok (.getfield 9, 3) := by decide +kernel
theorem dX5_addSign_35 : decode cX5_addSign 35 = .ok (.arraylength, 1) := by decide +kernel
theorem dX5_addSign_36 : decode cX5_addSign 36 = .ok (.if_icmp .ge 24, 3) := by decide +kernel
theorem dX5_addSign_39 : decode cX5_addSign 39 = .ok (.aload_n 0, 1) := by decide +kernel
theorem dX5_addSign_40 : decode cX5_addSign 40 = .ok (.getfield 9, 3) := by decide +kernel
theorem dX5_addSign_43 : decode cX5_addSign 43 = .ok (.aload_n 0, 1) := by decide +kernel
theorem dX5_addSign_44 : decode cX5_addSign 44 = .ok (.getfield 15, 3) := by decide +kernel
theorem dX5_addSign_47 : decode cX5_addSign 47 = .ok (.iload_n 1, 1) := by decide +kernel
theorem dX5_addSign_48 : decode cX5_addSign 48 = .ok (.i2b, 1) := by decide +kernel
theorem dX5_addSign_49 : decode cX5_addSign 49 = .ok (.bastore, 1) := by decide +kernel
theorem dX5_addSign_50 : decode cX5_addSign 50 = .ok (.aload_n 0, 1) := by decide +kernel
theorem dX5_addSign_51 : decode cX5_addSign 51 = .ok (.dup, 1) := by decide +kernel
theorem dX5_addSign_52 : decode cX5_addSign 52 = .ok (.getfield 15, 3) := by decide +kernel
theorem dX5_addSign_55 : decode cX5_addSign 55 = .ok (.iconst 1, 1) := by decide +kernel
theorem dX5_addSign_56 : decode cX5_addSign 56 = .ok (.iadd, 1) := by decide +kernel
theorem dX5_addSign_57 : decode cX5_addSign 57 = .ok (.putfield 15, 3) := by decide +kernel
theorem dX5_addSign_60 : decode cX5_addSign 60 = .ok (.return_, 1) := by decide +kernel
theorem dX5_signAt_0 : decode cX5_signAt 0 = .ok (.iload_n 1, 1) := by decide +kernel
theorem dX5_signAt_1 : decode cX5_signAt 1 = .ok (.ifCond .lt 29, 3) := by decide +kernel
theorem dX5_signAt_4 : decode cX5_signAt 4 = .ok (.iload_n 1, 1) := by decide +kernel
theorem dX5_signAt_5 : decode cX5_signAt 5 = .ok (.aload_n 0, 1) := by decide +kernel
theorem dX5_signAt_6 : decode cX5_signAt 6 = .ok (.getfield 15, 3) := by decide +kernel
theorem dX5_signAt_9 : decode cX5_signAt 9 = .ok (.if_icmp .ge 21, 3) := by decide +kernel
theorem dX5_signAt_12 : decode cX5_signAt 12 = .ok (.iload_n 1, 1) := by decide +kernel
theorem dX5_signAt_13 : decode cX5_signAt 13 = .ok (.aload_n 0, 1) := by decide +kernel
theorem dX5_signAt_14 : decode cX5_signAt 14 = .ok (.getfield 9, 3) := by decide +kernel
theorem dX5_signAt_17 : decode cX5_signAt 17 = .ok (.arraylength, 1) := by decide +kernel
theorem dX5_signAt_18 : decode cX5_signAt 18 = .ok (.if_icmp .ge 12, 3) := by decide +kernel
theorem dX5_signAt_21 : decode cX5_signAt 21 = .ok (.aload_n 0, 1) := by decide +kernel
theorem dX5_signAt_22 : decode cX5_signAt 22 = .ok (.getfield 9, 3) := by decide +kernel
theorem dX5_signAt_25 : decode cX5_signAt 25 = .ok (.iload_n 1, 1) := by decide +kernel
theorem dX5_signAt_26 : decode cX5_signAt 26 = .ok (.baload, 1) := by decide +kernel
theorem dX5_signAt_27 : decode cX5_signAt 27 = .ok (.goto 4, 3) := by decide +kernel
theorem dX5_signAt_30 : decode cX5_signAt 30 = .ok (.iconst 0, 1) := by decide +kernel
theorem dX5_signAt_31 : decode cX5_signAt 31 = .ok (.ireturn, 1) := by decide +kernel
theorem dX5_clear_0 : decode cX5_clear 0 = .ok (.aload_n 0, 1) := by decide +kernel
theorem dX5_clear_1 : decode cX5_clear 1 = .ok (.iconst 0, 1) := by decide +kernel
theorem dX5_clear_2 : decode cX5_clear 2 = .ok (.putfield 15, 3) := by decide +kernel
theorem dX5_clear_5 : decode cX5_clear 5 = .ok (.return_, 1) := by decide +kernel
set_option maxRecDepth 20000 in
theorem dX6_init_0 : decode cX6_init 0 = .ok (.aload_n 0, 1) := by decide +kernel
theorem dX6_init_1 : decode cX6_init 1 = .ok (.invokespecial 3, 3) := by decide +kernel
theorem dX6_init_4 : decode cX6_init 4 = .ok (.aload_n 0, 1) := by decide +kernel
theorem dX6_init_5 : decode cX6_init 5 = .ok (.new 9, 3) := by decide +kernel
theorem dX6_init_8 : decode cX6_init 8 = .ok (.dup, 1) := by decide +kernel
theorem dX6_init_9 : decode cX6_init 9 = .ok (.invokespecial 11, 3) := by decide +kernel
theorem dX6_init_12 : decode cX6_init 12 = .ok (.putfield 12, 3) := by decide +kernel
theorem dX6_init_15 : decode cX6_init 15 = .ok (.aload_n 0, 1) := by decide +kernel
theorem dX6_init_16 : decode cX6_init 16 = .ok (.sipush 600, 3) := by decide +kernel
theorem dX6_init_19 : decode cX6_init 19 = .ok (.newarray .int, 2) := by decide +kernel
theorem dX6_init_21 : decode cX6_init 21 = .ok (.putfield 18, 3) := by decide +kernel
theorem dX6_init_24 : decode cX6_init 24 = .ok (.aload_n 0, 1) := by decide +kernel
theorem dX6_init_25 : decode cX6_init 25 = .ok (.iconst 0, 1) := by decide +kernel
theorem dX6_init_26 : decode cX6_init 26 = .ok (.putfield 22, 3) := by decide +kernel
theorem dX6_init_29 : decode cX6_init 29 = .ok (.aload_n 0, 1) := by decide +kernel
theorem dX6_init_30 : decode cX6_init 30 = .ok (.iconst 0, 1) := by decide +kernel
theorem dX6_init_31 : decode cX6_init 31 = .ok (.putfield 26, 3) := by decide +kernel
theorem dX6_init_34 : decode cX6_init 34 = .ok (.aload_n 0, 1) := by decide +kernel
theorem dX6_init_35 : decode cX6_init 35 = .ok (.sipush 10026, 3) := by decide +kernel
theorem dX6_init_38 : decode cX6_init 38 = .ok (.putfield 29, 3) := by decide +kernel
theorem dX6_init_41 : decode cX6_init 41 = .ok (.aload_n 0, 1) := by decide +kernel
theorem dX6_init_42 : decode cX6_init 42 = .ok (.iconst 0, 1) := by decide +kernel
theorem dX6_init_43 : decode cX6_init 43 = .ok (.putfield 32, 3) := by decide +kernel
theorem dX6_init_46 : decode cX6_init 46 = .ok (.aload_n 0, 1) := by decide +kernel
theorem dX6_init_47 : decode cX6_init 47 = .ok (.iconst 0, 1) := by decide +kernel
theorem dX6_init_48 : decode cX6_init 48 = .ok (.putfield 35, 3) := by decide +kernel
theorem dX6_init_51 : decode cX6_init 51 = .ok (.return_, 1) := by decide +kernel
set_option maxRecDepth 20000 in
theorem dX6_read_0 : decode cX6_read 0 = .ok (.aload_n 0, 1) := by decide +kernel
theorem dX6_read_1 : decode cX6_read 1 = .ok (.getfield 12, 3) := by decide +kernel
theorem dX6_read_4 : decode cX6_read 4 = .ok (.aload_n 1, 1) := by decide +kernel
theorem dX6_read_5 : decode cX6_read 5 = .ok (.invokevirtual 38, 3) := by decide +kernel
theorem dX6_read_8 : decode cX6_read 8 = .ok (.aload_n 0, 1) := by decide +kernel
theorem dX6_read_9 : decode cX6_read 9 = .ok (.iconst 0, 1) := by decide +kernel
theorem dX6_read_10 : decode cX6_read 10 = .ok (.putfield 22, 3) := by decide +kernel
theorem dX6_read_13 : decode cX6_read 13 = .ok (.aload_n 0, 1) := by decide +kernel
theorem dX6_read_14 : decode cX6_read 14 = .ok (.iconst 0, 1) := by decide +kernel
theorem dX6_read_15 : decode cX6_read 15 = .ok (.putfield 32, 3) := by decide +kernel
theorem dX6_read_18 : decode cX6_read 18 = .ok (.aload_n 0, 1) := by decide +kernel
theorem dX6_read_19 : decode cX6_read 19 = .ok (.iconst 0, 1) := by decide +kernel
theorem dX6_read_20 : decode cX6_read 20 = .ok (.putfield 35, 3) := by decide +kernel
theorem dX6_read_23 : decode cX6_read 23 = .ok (.aload_n 0, 1) := by decide +kernel
theorem dX6_read_24 : decode cX6_read 24 = .ok (.iconst (-1), 1) := by decide +kernel
theorem dX6_read_25 : decode cX6_read 25 = .ok (.putfield 26, 3) := by decide +kernel
theorem dX6_read_28 : decode cX6_read 28 = .ok (.aload_n 0, 1) := by decide +kernel
theorem dX6_read_29 : decode cX6_read 29 = .ok (.invokevirtual 42, 3) := by decide +kernel
theorem dX6_read_32 : decode cX6_read 32 = .ok (.iconst 0, 1) := by decide +kernel
theorem dX6_read_33 : decode cX6_read 33 = .ok (.istore_n 2, 1) := by decide +kernel
theorem dX6_read_34 : decode cX6_read 34 = .ok (.iload_n 2, 1) := by decide +kernel
theorem dX6_read_35 : decode cX6_read 35 = .ok (.bipush 16, 2) := by decide +kernel
theorem dX6_read_37 : decode cX6_read 37 = .ok (.if_icmp .gt 30, 3) := by decide +kernel
theorem dX6_read_40 : decode cX6_read 40 = .ok (.aload_n 0, 1) := by decide +kernel
theorem dX6_read_41 : decode cX6_read 41 = .ok (.getfield 35, 3) := by decide +kernel
theorem dX6_read_44 : decode cX6_read 44 = .ok (.ifCond .ne 23, 3) := by decide +kernel
theorem dX6_read_47 : decode cX6_read 47 = .ok (.aload_n 0, 1) := by decide +kernel
theorem dX6_read_48 : decode cX6_read 48 = .ok (.getfield 29, 3) := by decide +kernel
theorem dX6_read_51 : decode cX6_read 51 = .ok (.sipush 10025, 3) := by decide +kernel
theorem dX6_read_54 : decode cX6_read 54 = .ok (.if_icmp .eq 13, 3) := by decide +kernel
theorem dX6_read_57 : decode cX6_read 57 = .ok (.aload_n 0, 1) := by decide +kernel
theorem dX6_read_58 : decode cX6_read 58 = .ok (.invokevirtual 45, 3) := by decide +kernel
theorem dX6_read_61 : decode cX6_read 61 = .ok (.iinc 2 1, 3) := by decide +kernel
theorem dX6_read_64 : decode cX6_read 64 = .ok (.goto (-30), 3) := by decide +kernel
theorem dX6_read_67 : decode cX6_read 67 = .ok (.aload_n 0, 1) := by decide +kernel
theorem dX6_read_68 : decode cX6_read 68 = .ok (.getfield 35, 3) := by decide +kernel
theorem dX6_read_71 : decode cX6_read 71 = .ok (.ireturn, 1) := by decide +kernel
set_option maxRecDepth 20000 in
theorem dX6_rateText_0 : decode cX6_rateText 0 = .ok (.iconst 0, 1) := by decide +kernel
theorem dX6_rateText_1 : decode cX6_rateText 1 = .ok (.aload_n 0, 1) := by decide +kernel
theorem dX6_rateText_2 : decode cX6_rateText 2 = .ok (.getfield 22, 3) := by decide +kernel
theorem dX6_rateText_5 : decode cX6_rateText 5 = .ok (.aload_n 0, 1) := by decide +kernel
theorem dX6_rateText_6 : decode cX6_rateText 6 = .ok (.getfield 18, 3) := by decide +kernel
theorem dX6_rateText_9 : decode cX6_rateText 9 = .ok (.arraylength, 1) := by decide +kernel
theorem dX6_rateText_10 : decode cX6_rateText 10 = .ok (.invokestatic 48, 3) := by decide +kernel
theorem dX6_rateText_13 : decode cX6_rateText 13 = .ok (.invokestatic 54, 3) := by decide +kernel
theorem dX6_rateText_16 : decode cX6_rateText 16 = .ok (.istore_n 1, 1) := by decide +kernel
theorem dX6_rateText_17 : decode cX6_rateText 17 = .ok (.new 57, 3) := by decide +kernel
theorem dX6_rateText_20 : decode cX6_rateText 20 = .ok (.dup, 1) := by decide +kernel
theorem dX6_rateText_21 : decode cX6_rateText 21 = .ok (.aload_n 0, 1) := by decide +kernel
theorem dX6_rateText_22 : decode cX6_rateText 22 = .ok (.getfield 18, 3) := by decide +kernel
theorem dX6_rateText_25 : decode cX6_rateText 25 = .ok (.iload_n 1, 1) := by decide +kernel
theorem dX6_rateText_26 : decode cX6_rateText 26 = .ok (.invokestatic 59, 3) := by decide +kernel
theorem dX6_rateText_29 : decode cX6_rateText 29 = .ok (.aload_n 0, 1) := by decide +kernel
theorem dX6_rateText_30 : decode cX6_rateText 30 = .ok (.getfield 32, 3) := by decide +kernel
theorem dX6_rateText_33 : decode cX6_rateText 33 = .ok (.invokespecial 65, 3) := by decide +kernel
theorem dX6_rateText_36 : decode cX6_rateText 36 = .ok (.areturn, 1) := by decide +kernel
set_option maxRecDepth 20000 in
theorem dX6_readLine_0 : decode cX6_readLine 0 = .ok (.aload_n 0, 1) := by decide +kernel
theorem dX6_readLine_1 : decode cX6_readLine 1 = .ok (.getfield 29, 3) := by decide +kernel
theorem dX6_readLine_4 : decode cX6_readLine 4 = .ok (.sipush 10020, 3) := by decide +kernel
theorem dX6_readLine_7 : decode cX6_readLine 7 = .ok (.if_icmp .ne 17, 3) := by decide +kernel
theorem dX6_readLine_10 : decode cX6_readLine 10 = .ok (.aload_n 0, 1) := by decide +kernel
theorem dX6_readLine_11 : decode cX6_readLine 11 = .ok (.getfield 32, 3) := by decide +kernel
theorem dX6_readLine_14 : decode cX6_readLine 14 = .ok (.bipush 16, 2) := by decide +kernel
theorem dX6_readLine_16 : decode cX6_readLine 16 = .ok (.if_icmp .lt 8, 3) := by decide +kernel
theorem dX6_readLine_19 : decode cX6_readLine 19 = .ok (.aload_n 0, 1) := by decide +kernel
theorem dX6_readLine_20 : decode cX6_readLine 20 = .ok (.iconst 5, 1) := by decide +kernel
theorem dX6_readLine_21 : decode cX6_readLine 21 = .ok (.invokevirtual 68, 3) := by decide +kernel
theorem dX6_readLine_24 : decode cX6_readLine 24 = .ok (.aload_n 0, 1) := by decide +kernel
theorem dX6_readLine_25 : decode cX6_readLine 25 = .ok (.sipush 10020, 3) := by decide +kernel
theorem dX6_readLine_28 : decode cX6_readLine 28 = .ok (.invokevirtual 72, 3) := by decide +kernel
theorem dX6_readLine_31 : decode cX6_readLine 31 = .ok (.aload_n 0, 1) := by decide +kernel
theorem dX6_readLine_32 : decode cX6_readLine 32 = .ok (.invokevirtual 75, 3) := by decide +kernel
theorem dX6_readLine_35 : decode cX6_readLine 35 = .ok (.istore_n 1, 1) := by decide +kernel
theorem dX6_readLine_36 : decode cX6_readLine 36 = .ok (.aload_n 0, 1) := by decide +kernel
theorem dX6_readLine_37 : decode cX6_readLine 37 = .ok (.sipush 10021, 3) := by decide +kernel
theorem dX6_readLine_40 : decode cX6_readLine 40 = .ok (.invokevirtual 72, 3) := by decide +kernel
theorem dX6_readLine_43 : decode cX6_readLine 43 = .ok (.aload_n 0, 1) := by decide +kernel
theorem dX6_readLine_44 : decode cX6_readLine 44 = .ok (.iconst 0, 1) := by decide +kernel
theorem dX6_readLine_45 : decode cX6_readLine 45 = .ok (.invokevirtual 79, 3) := by decide +kernel
theorem dX6_readLine_48 : decode cX6_readLine 48 = .ok (.aload_n 0, 1) := by decide +kernel
theorem dX6_readLine_49 : decode cX6_readLine 49 = .ok (.sipush 10024, 3) := by decide +kernel
theorem dX6_readLine_52 : decode cX6_readLine 52 = .ok (.invokevirtual 72, 3) := by decide +kernel
theorem dX6_readLine_55 : decode cX6_readLine 55 = .ok (.aload_n 0, 1) := by decide +kernel
theorem dX6_readLine_56 : decode cX6_readLine 56 = .ok (.sipush 20000, 3) := by decide +kernel
theorem dX6_readLine_59 : decode cX6_readLine 59 = .ok (.iload_n 1, 1) := by decide +kernel
theorem dX6_readLine_60 : decode cX6_readLine 60 = .ok (.iadd, 1) := by decide +kernel
theorem dX6_readLine_61 : decode cX6_readLine 61 = .ok (.invokevirtual 82, 3) := by decide +kernel
theorem dX6_readLine_64 : decode cX6_readLine 64 = .ok (.aload_n 0, 1) := by decide +kernel
theorem dX6_readLine_65 : decode cX6_readLine 65 = .ok (.dup, 1) := by decide +kernel
theorem dX6_readLine_66 : decode cX6_readLine 66 = .ok (.getfield 32, 3) := by decide +kernel
theorem dX6_readLine_69 : decode cX6_readLine 69 = .ok (.iconst 1, 1) := by decide +kernel
theorem dX6_readLine_70 : decode cX6_readLine 70 = .ok (.iadd, 1) := by decide +kernel
theorem dX6_readLine_71 : decode cX6_readLine 71 = .ok (.putfield 32, 3) := by decide +kernel
theorem dX6_readLine_74 : decode cX6_readLine 74 = .ok (.return_, 1) := by decide +kernel
set_option maxRecDepth 20000 in
theorem dX6_takeRate_0 : decode cX6_takeRate 0 = .ok (.aload_n 0, 1) := by decide +kernel
theorem dX6_takeRate_1 : decode cX6_takeRate 1 = .ok (.getfield 29, 3) := by decide +kernel
theorem dX6_takeRate_4 : decode cX6_takeRate 4 = .ok (.istore_n 1, 1) := by decide +kernel
theorem dX6_takeRate_5 : decode cX6_takeRate 5 = .ok (.iload_n 1, 1) := by decide +kernel
theorem dX6_takeRate_6 : decode cX6_takeRate 6 = .ok (.iconst 0, 1) := by decide +kernel
theorem dX6_takeRate_7 : decode cX6_takeRate 7 = .ok (.sipush 9999, 3) := by decide +kernel
theorem dX6_takeRate_10 : decode cX6_takeRate 10 = .ok (.invokestatic 85, 3) := by decide +kernel
theorem dX6_takeRate_13 : decode cX6_takeRate 13 = .ok (.ifCond .ne 10, 3) := by decide +kernel
theorem dX6_takeRate_16 : decode cX6_takeRate 16 = .ok (.aload_n 0, 1) := by decide +kernel
theorem dX6_takeRate_17 : decode cX6_takeRate 17 = .ok (.iconst 1, 1) := by decide +kernel
theorem dX6_takeRate_18 : decode cX6_takeRate 18 = .ok (.invokevirtual 68, 3) := by decide +kernel
theorem dX6_takeRate_21 : decode cX6_takeRate 21 = .ok (.iconst 0, 1) := by decide +kernel
theorem dX6_takeRate_22 : decode cX6_takeRate 22 = .ok (.ireturn, 1) := by decide +kernel
theorem dX6_takeRate_23 : decode cX6_takeRate 23 = .ok (.iload_n 1, 1) := by decide +kernel
theorem dX6_takeRate_24 : decode cX6_takeRate 24 = .ok (.sipush 999, 3) := by decide +kernel
theorem dX6_takeRate_27 : decode cX6_takeRate 27 = .ok (.if_icmp .le 10, 3) := by decide +kernel
theorem dX6_takeRate_30 : decode cX6_takeRate 30 = .ok (.aload_n 0, 1) := by decide +kernel
theorem dX6_takeRate_31 : decode cX6_takeRate 31 = .ok (.iconst 4, 1) := by decide +kernel
theorem dX6_takeRate_32 : decode cX6_takeRate 32 = .ok (.invokevirtual 68, 3) := by decide +kernel
theorem dX6_takeRate_35 : decode cX6_takeRate 35 = .ok (.iconst 0, 1) := by decide +kernel
theorem dX6_takeRate_36 : decode cX6_takeRate 36 = .ok (.ireturn, 1) := by decide +kernel
theorem dX6_takeRate_37 : decode cX6_takeRate 37 = .ok (.aload_n 0, 1) := by decide +kernel
theorem dX6_takeRate_38 : decode cX6_takeRate 38 = .ok (.invokevirtual 42, 3) := by decide +kernel
theorem dX6_takeRate_41 : decode cX6_takeRate 41 = .ok (.iload_n 1, 1) := by decide +kernel
theorem dX6_takeRate_42 : decode cX6_takeRate 42 = .ok (.ireturn, 1) := by decide +kernel
set_option maxRecDepth 20000 in
theorem dX6_readAnds_0 : decode cX6_readAnds 0 = .ok (.aload_n 0, 1) := by decide +kernel
theorem dX6_readAnds_1 : decode cX6_readAnds 1 = .ok (.iload_n 1, 1) := by decide +kernel
theorem dX6_readAnds_2 : decode cX6_readAnds 2 = .ok (.invokevirtual 89, 3) := by decide +kernel
theorem dX6_readAnds_5 : decode cX6_readAnds 5 = .ok (.iconst 0, 1) := by decide +kernel
theorem dX6_readAnds_6 : decode cX6_readAnds 6 = .ok (.istore_n 2, 1) := by decide +kernel
theorem dX6_readAnds_7 : decode cX6_readAnds 7 = .ok (.iload_n 2, 1) := by decide +kernel
theorem dX6_readAnds_8 : decode cX6_readAnds 8 = .ok (.sipush 600, 3) := by decide +kernel
theorem dX6_readAnds_11 : decode cX6_readAnds 11 = .ok (.if_icmp .ge 35, 3) := by decide +kernel
theorem dX6_readAnds_14 : decode cX6_readAnds 14 = .ok (.aload_n 0, 1) := by decide +kernel
theorem dX6_readAnds_15 : decode cX6_readAnds 15 = .ok (.getfield 29, 3) := by decide +kernel
theorem dX6_readAnds_18 : decode cX6_readAnds 18 = .ok (.sipush 10014, 3) := by decide +kernel
theorem dX6_readAnds_21 : decode cX6_readAnds 21 = .ok (.if_icmp .ne 25, 3) := by decide +kernel
theorem dX6_readAnds_24 : decode cX6_readAnds 24 = .ok (.aload_n 0, 1) := by decide +kernel
theorem dX6_readAnds_25 : decode cX6_readAnds 25 = .ok (.invokevirtual 42, 3) := by decide +kernel
theorem dX6_readAnds_28 : decode cX6_readAnds 28 = .ok (.aload_n 0, 1) := by decide +kernel
theorem dX6_readAnds_29 : decode cX6_readAnds 29 = .ok (.iload_n 1, 1) := by decide +kernel
theorem dX6_readAnds_30 : decode cX6_readAnds 30 = .ok (.invokevirtual 89, 3) := by decide +kernel
theorem dX6_readAnds_33 : decode cX6_readAnds 33 = .ok (.aload_n 0, 1) := by decide +kernel
theorem dX6_readAnds_34 : decode cX6_readAnds 34 = .ok (.sipush 10014, 3) := by decide +kernel
theorem dX6_readAnds_37 : decode cX6_readAnds 37 = .ok (.invokevirtual 82, 3) := by decide +kernel
theorem dX6_readAnds_40 : decode cX6_readAnds 40 = .ok (.iinc 2 1, 3) := by decide +kernel
theorem dX6_readAnds_43 : decode cX6_readAnds 43 = .ok (.goto (-36), 3) := by decide +kernel
theorem dX6_readAnds_46 : decode cX6_readAnds 46 = .ok (.return_, 1) := by decide +kernel
set_option maxRecDepth 20000 in
theorem dX6_readTest_0 : decode cX6_readTest 0 = .ok (.aload_n 0, 1) := by decide +kernel
theorem dX6_readTest_1 : decode cX6_readTest 1 = .ok (.iload_n 1, 1) := by decide +kernel
theorem dX6_readTest_2 : decode cX6_readTest 2 = .ok (.invokevirtual 92, 3) := by decide +kernel
theorem dX6_readTest_5 : decode cX6_readTest 5 = .ok (.aload_n 0, 1) := by decide +kernel
theorem dX6_readTest_6 : decode cX6_readTest 6 = .ok (.getfield 29, 3) := by decide +kernel
theorem dX6_readTest_9 : decode cX6_readTest 9 = .ok (.istore_n 2, 1) := by decide +kernel
theorem dX6_readTest_10 : decode cX6_readTest 10 = .ok (.iload_n 2, 1) := by decide +kernel
theorem dX6_readTest_11 : decode cX6_readTest 11 = .ok (.sipush 10012, 3) := by decide +kernel
theorem dX6_readTest_14 : decode cX6_readTest 14 = .ok (.if_icmp .eq 10, 3) := by decide +kernel
theorem dX6_readTest_17 : decode cX6_readTest 17 = .ok (.iload_n 2, 1) := by decide +kernel
theorem dX6_readTest_18 : decode cX6_readTest 18 = .ok (.sipush 10013, 3) := by decide +kernel
theorem dX6_readTest_21 : decode cX6_readTest 21 = .ok (.if_icmp .ne 17, 3) := by decide +kernel
theorem dX6_readTest_24 : decode cX6_readTest 24 = .ok (.aload_n 0, 1) := by decide +kernel
theorem dX6_readTest_25 : decode cX6_readTest 25 = .ok (.invokevirtual 42, 3) := by decide +kernel
theorem dX6_readTest_28 : decode cX6_readTest 28 = .ok (.aload_n 0, 1) := by decide +kernel
theorem dX6_readTest_29 : decode cX6_readTest 29 = .ok (.iload_n 1, 1) := by decide +kernel
theorem dX6_readTest_30 : decode cX6_readTest 30 = .ok (.invokevirtual 92, 3) := by decide +kernel
theorem dX6_readTest_33 : decode cX6_readTest 33 = .ok (.aload_n 0, 1) := by decide +kernel
theorem dX6_readTest_34 : decode cX6_readTest 34 = .ok (.iload_n 2, 1) := by decide +kernel
theorem dX6_readTest_35 : decode cX6_readTest 35 = .ok (.invokevirtual 82, 3) := by decide +kernel
theorem dX6_readTest_38 : decode cX6_readTest 38 = .ok (.return_, 1) := by decide +kernel
set_option maxRecDepth 20000 in
theorem dX6_readSum_0 : decode cX6_readSum 0 = .ok (.aload_n 0, 1) := by decide +kernel
theorem dX6_readSum_1 : decode cX6_readSum 1 = .ok (.iload_n 1, 1) := by decide +kernel
theorem dX6_readSum_2 : decode cX6_readSum 2 = .ok (.invokevirtual 95, 3) := by decide +kernel
theorem dX6_readSum_5 : decode cX6_readSum 5 = .ok (.iconst 0, 1) := by decide +kernel
theorem dX6_readSum_6 : decode cX6_readSum 6 = .ok (.istore_n 2, 1) := by decide +kernel
theorem dX6_readSum_7 : decode cX6_readSum 7 = .ok (.iload_n 2, 1) := by decide +kernel
theorem dX6_readSum_8 : decode cX6_readSum 8 = .ok (.sipush 600, 3) := by decide +kernel
theorem dX6_readSum_11 : decode cX6_readSum 11 = .ok (.if_icmp .ge 48, 3) := by decide +kernel
theorem dX6_readSum_14 : decode cX6_readSum 14 = .ok (.aload_n 0, 1) := by decide +kernel
theorem dX6_readSum_15 : decode cX6_readSum 15 = .ok (.getfield 29, 3) := by decide +kernel
theorem dX6_readSum_18 : decode cX6_readSum 18 = .ok (.sipush 10010, 3) := by decide +kernel
theorem dX6_readSum_21 : decode cX6_readSum 21 = .ok (.if_icmp .eq 13, 3) := by decide +kernel
theorem dX6_readSum_24 : decode cX6_readSum 24 = .ok (.aload_n 0, 1) := by decide +kernel
theorem dX6_readSum_25 : decode cX6_readSum 25 = .ok (.getfield 29, 3) := by decide +kernel
theorem dX6_readSum_28 : decode cX6_readSum 28 = .ok (.sipush 10011, 3) := by decide +kernel
theorem dX6_readSum_31 : decode cX6_readSum 31 = .ok (.if_icmp .ne 28, 3) := by decide +kernel
theorem dX6_readSum_34 : decode cX6_readSum 34 = .ok (.aload_n 0, 1) := by decide +kernel
theorem dX6_readSum_35 : decode cX6_readSum 35 = .ok (.getfield 29, 3) := by decide +kernel
theorem dX6_readSum_38 : decode cX6_readSum 38 = .ok (.istore_n 3, 1) := by decide +kernel
theorem dX6_readSum_39 : decode cX6_readSum 39 = .ok (.aload_n 0, 1) := by decide +kernel
theorem dX6_readSum_40 : decode cX6_readSum 40 = .ok (.invokevirtual 42, 3) := by decide +kernel
theorem dX6_readSum_43 : decode cX6_readSum 43 = .ok (.aload_n 0, 1) := by decide +kernel
theorem dX6_readSum_44 : decode cX6_readSum 44 = .ok (.iload_n 1, 1) := by decide +kernel
theorem dX6_readSum_45 : decode cX6_readSum 45 = .ok (.invokevirtual 95, 3) := by decide +kernel
theorem dX6_readSum_48 : decode cX6_readSum 48 = .ok (.aload_n 0, 1) := by decide +kernel
theorem dX6_readSum_49 : decode cX6_readSum 49 = .ok (.iload_n 3, 1) := by decide +kernel
theorem dX6_readSum_50 : decode cX6_readSum 50 = .ok (.invokevirtual 82, 3) := by decide +kernel
theorem dX6_readSum_53 : decode cX6_readSum 53 = .ok (.iinc 2 1, 3) := by decide +kernel
theorem dX6_readSum_56 : decode cX6_readSum 56 = .ok (.goto (-49), 3) := by decide +kernel
theorem dX6_readSum_59 : decode cX6_readSum 59 = .ok (.return_, 1) := by decide +kernel
set_option maxRecDepth 20000 in
theorem dX6_readPart_0 : decode cX6_readPart 0 = .ok (.aload_n 0, 1) := by decide +kernel
theorem dX6_readPart_1 : decode cX6_readPart 1 = .ok (.getfield 29, 3) := by decide +kernel
theorem dX6_readPart_4 : decode cX6_readPart 4 = .ok (.istore_n 2, 1) := by decide +kernel
theorem dX6_readPart_5 : decode cX6_readPart 5 = .ok (.iload_n 2, 1) := by decide +kernel
theorem dX6_readPart_6 : decode cX6_readPart 6 = .ok (.ifCond .lt 14, 3) := by decide +kernel
theorem dX6_readPart_9 : decode cX6_readPart 9 = .ok (.iload_n 2, 1) := by decide +kernel
theorem dX6_readPart_10 : decode cX6_readPart 10 = .ok (.sipush 10005, 3) := by decide +kernel
theorem dX6_readPart_13 : decode cX6_readPart 13 = .ok (.if_icmp .ge 7, 3) := by decide +kernel
theorem dX6_readPart_16 : decode cX6_readPart 16 = .ok (.iconst 1, 1) := by decide +kernel
theorem dX6_readPart_17 : decode cX6_readPart 17 = .ok (.goto 4, 3) := by decide +kernel
theorem dX6_readPart_20 : decode cX6_readPart 20 = .ok (.iconst 0, 1) := by decide +kernel
theorem dX6_readPart_21 : decode cX6_readPart 21 = .ok (.istore_n 3, 1) := by decide +kernel
theorem dX6_readPart_22 : decode cX6_readPart 22 = .ok (.iload_n 3, 1) := by decide +kernel
theorem dX6_readPart_23 : decode cX6_readPart 23 = .ok (.ifCond .ne 16, 3) := by decide +kernel
theorem dX6_readPart_26 : decode cX6_readPart 26 = .ok (.iload_n 2, 1) := by decide +kernel
theorem dX6_readPart_27 : decode cX6_readPart 27 = .ok (.sipush 10022, 3) := by decide +kernel
theorem dX6_readPart_30 : decode cX6_readPart 30 = .ok (.if_icmp .eq 9, 3) := by decide +kernel
theorem dX6_readPart_33 : decode cX6_readPart 33 = .ok (.aload_n 0, 1) := by decide +kernel
theorem dX6_readPart_34 : decode cX6_readPart 34 = .ok (.iconst 1, 1) := by decide +kernel
theorem dX6_readPart_35 : decode cX6_readPart 35 = .ok (.invokevirtual 68, 3) := by decide +kernel
theorem dX6_readPart_38 : decode cX6_readPart 38 = .ok (.return_, 1) := by decide +kernel
theorem dX6_readPart_39 : decode cX6_readPart 39 = .ok (.iload_n 1, 1) := by decide +kernel
theorem dX6_readPart_40 : decode cX6_readPart 40 = .ok (.iconst 5, 1) := by decide +kernel
theorem dX6_readPart_41 : decode cX6_readPart 41 = .ok (.if_icmp .lt 9, 3) := by decide +kernel
theorem dX6_readPart_44 : decode cX6_readPart 44 = .ok (.aload_n 0, 1) := by decide +kernel
theorem dX6_readPart_45 : decode cX6_readPart 45 = .ok (.iconst 5, 1) := by decide +kernel
theorem dX6_readPart_46 : decode cX6_readPart 46 = .ok (.invokevirtual 68, 3) := by decide +kernel
theorem dX6_readPart_49 : decode cX6_readPart 49 = .ok (.return_, 1) := by decide +kernel
theorem dX6_readPart_50 : decode cX6_readPart 50 = .ok (.aload_n 0, 1) := by decide +kernel
theorem dX6_readPart_51 : decode cX6_readPart 51 = .ok (.invokevirtual 42, 3) := by decide +kernel
theorem dX6_readPart_54 : decode cX6_readPart 54 = .ok (.iload_n 3, 1) := by decide +kernel
theorem dX6_readPart_55 : decode cX6_readPart 55 = .ok (.ifCond .eq 9, 3) := by decide +kernel
theorem dX6_readPart_58 : decode cX6_readPart 58 = .ok (.aload_n 0, 1) := by decide +kernel
theorem dX6_readPart_59 : decode cX6_readPart 59 = .ok (.iload_n 2, 1) := by decide +kernel
theorem dX6_readPart_60 : decode cX6_readPart 60 = .ok (.invokevirtual 82, 3) := by decide +kernel
theorem dX6_readPart_63 : decode cX6_readPart 63 = .ok (.return_, 1) := by decide +kernel
theorem dX6_readPart_64 : decode cX6_readPart 64 = .ok (.aload_n 0, 1) := by decide +kernel
theorem dX6_readPart_65 : decode cX6_readPart 65 = .ok (.iload_n 1, 1) := by decide +kernel
theorem dX6_readPart_66 : decode cX6_readPart 66 = .ok (.iconst 1, 1) := by decide +kernel
theorem dX6_readPart_67 : decode cX6_readPart 67 = .ok (.iadd, 1) := by decide +kernel
theorem dX6_readPart_68 : decode cX6_readPart 68 = .ok (.invokevirtual 79, 3) := by decide +kernel
theorem dX6_readPart_71 : decode cX6_readPart 71 = .ok (.aload_n 0, 1) := by decide +kernel
theorem dX6_readPart_72 : decode cX6_readPart 72 = .ok (.getfield 29, 3) := by decide +kernel
theorem dX6_readPart_75 : decode cX6_readPart 75 = .ok (.sipush 10023, 3) := by decide +kernel
theorem dX6_readPart_78 : decode cX6_readPart 78 = .ok (.if_icmp .ne 10, 3) := by decide +kernel
theorem dX6_readPart_81 : decode cX6_readPart 81 = .ok (.aload_n 0, 1) := by decide +kernel
theorem dX6_readPart_82 : decode cX6_readPart 82 = .ok (.invokevirtual 42, 3) := by decide +kernel
theorem dX6_readPart_85 : decode cX6_readPart 85 = .ok (.goto 8, 3) := by decide +kernel
theorem dX6_readPart_88 : decode cX6_readPart 88 = .ok (.aload_n 0, 1) := by decide +kernel
theorem dX6_readPart_89 : decode cX6_readPart 89 = .ok (.iconst 1, 1) := by decide +kernel
theorem dX6_readPart_90 : decode cX6_readPart 90 = .ok (.invokevirtual 68, 3) := by decide +kernel
theorem dX6_readPart_93 : decode cX6_readPart 93 = .ok (.return_, 1) := by decide +kernel
set_option maxRecDepth 20000 in
theorem dX6_take_0 : decode cX6_take 0 = .ok (.aload_n 0, 1) := by decide +kernel
theorem dX6_take_1 : decode cX6_take 1 = .ok (.getfield 29, 3) := by decide +kernel
theorem dX6_take_4 : decode cX6_take 4 = .ok (.iload_n 1, 1) := by decide +kernel
theorem dX6_take_5 : decode cX6_take 5 = .ok (.if_icmp .ne 10, 3) := by decide +kernel
theorem dX6_take_8 : decode cX6_take 8 = .ok (.aload_n 0, 1) := by decide +kernel
theorem dX6_take_9 : decode cX6_take 9 = .ok (.invokevirtual 42, 3) := by decide +kernel
theorem dX6_take_12 : decode cX6_take 12 = .ok (.goto 8, 3) := by decide +kernel
theorem dX6_take_15 : decode cX6_take 15 = .ok (.aload_n 0, 1) := by decide +kernel
theorem dX6_take_16 : decode cX6_take 16 = .ok (.iconst 1, 1) := by decide +kernel
theorem dX6_take_17 : decode cX6_take 17 = .ok (.invokevirtual 68, 3) := by decide +kernel
theorem dX6_take_20 : decode cX6_take 20 = .ok (.return_, 1) := by decide +kernel
theorem dX6_goOn_0 : decode cX6_goOn 0 = .ok (.aload_n 0, 1) := by decide +kernel
theorem dX6_goOn_1 : decode cX6_goOn 1 = .ok (.dup, 1) := by decide +kernel
theorem dX6_goOn_2 : decode cX6_goOn 2 = .ok (.getfield 26, 3) := by decide +kernel
theorem dX6_goOn_5 : decode cX6_goOn 5 = .ok (.iconst 1, 1) := by decide +kernel
theorem dX6_goOn_6 : decode cX6_goOn 6 = .ok (.iadd, 1) := by decide +kernel
theorem dX6_goOn_7 : decode cX6_goOn 7 = .ok (.putfield 26, 3) := by decide +kernel
theorem dX6_goOn_10 : decode cX6_goOn 10 = .ok (.aload_n 0, 1) := by decide +kernel
theorem dX6_goOn_11 : decode cX6_goOn 11 = .ok (.getfield 26, 3) := by decide +kernel
theorem dX6_goOn_14 : decode cX6_goOn 14 = .ok (.ifCond .lt 36, 3) := by decide +kernel
theorem dX6_goOn_17 : decode cX6_goOn 17 = .ok (.aload_n 0, 1) := by decide +kernel
theorem dX6_goOn_18 : decode cX6_goOn 18 = .ok (.getfield 26, 3) := by decide +kernel
theorem dX6_goOn_21 : decode cX6_goOn 21 = .ok (.aload_n 0, 1) := by decide +kernel
theorem dX6_goOn_22 : decode cX6_goOn 22 = .ok (.getfield 12, 3) := by decide +kernel
theorem dX6_goOn_25 : decode cX6_goOn 25 = .ok (.getfield 98, 3) := by decide +kernel
theorem dX6_goOn_28 : decode cX6_goOn 28 = .ok (.if_icmp .ge 22, 3) := by decide +kernel
theorem dX6_goOn_31 : decode cX6_goOn 31 = .ok (.aload_n 0, 1) := by decide +kernel
theorem dX6_goOn_32 : decode cX6_goOn 32 = .ok (.getfield 26, 3) := by decide +kernel
theorem dX6_goOn_35 : decode cX6_goOn 35 = .ok (.aload_n 0, 1) := by decide +kernel
theorem dX6_goOn_36 : decode cX6_goOn 36 = .ok (.getfield 12, 3) := by decide +kernel
theorem dX6_goOn_39 : decode cX6_goOn 39 = .ok (.getfield 101, 3) := by decide +kernel
theorem dX6_goOn_42 : decode cX6_goOn 42 = .ok (.arraylength, 1) := by decide +kernel
theorem dX6_goOn_43 : decode cX6_goOn 43 = .ok (.if_icmp .ge 7, 3) := by decide +kernel
theorem dX6_goOn_46 : decode cX6_goOn 46 = .ok (.iconst 1, 1) := by decide +kernel
theorem dX6_goOn_47 : decode cX6_goOn 47 = .ok (.goto 4, 3) := by decide +kernel
theorem dX6_goOn_50 : decode cX6_goOn 50 = .ok (.iconst 0, 1) := by decide +kernel
theorem dX6_goOn_51 : decode cX6_goOn 51 = .ok (.istore_n 1, 1) := by decide +kernel
theorem dX6_goOn_52 : decode cX6_goOn 52 = .ok (.aload_n 0, 1) := by decide +kernel
theorem dX6_goOn_53 : decode cX6_goOn 53 = .ok (.iload_n 1, 1) := by decide +kernel
theorem dX6_goOn_54 : decode cX6_goOn 54 = .ok (.ifCond .eq 18, 3) := by decide +kernel
theorem dX6_goOn_57 : decode cX6_goOn 57 = .ok (.aload_n 0, 1) := by decide +kernel
theorem dX6_goOn_58 : decode cX6_goOn 58 = .ok (.getfield 12, 3) := by decide +kernel
theorem dX6_goOn_61 : decode cX6_goOn 61 = .ok (.getfield 101, 3) := by decide +kernel
theorem dX6_goOn_64 : decode cX6_goOn 64 = .ok (.aload_n 0, 1) := by decide +kernel
theorem dX6_goOn_65 : decode cX6_goOn 65 = .ok (.getfield 26, 3) := by decide +kernel
theorem dX6_goOn_68 : decode cX6_goOn 68 = .ok (.iaload, 1) := by decide +kernel
theorem dX6_goOn_69 : decode cX6_goOn 69 = .ok (.goto 6, 3) := by decide +kernel
theorem dX6_goOn_72 : decode cX6_goOn 72 = .ok (.sipush 10026, 3) := by decide +kernel
theorem dX6_goOn_75 : decode cX6_goOn 75 = .ok (.putfield 29, 3) := by decide +kernel
theorem dX6_goOn_78 : decode cX6_goOn 78 = .ok (.return_, 1) := by decide +kernel
theorem dX6_mark_0 : decode cX6_mark 0 = .ok (.aload_n 0, 1) := by decide +kernel
theorem dX6_mark_1 : decode cX6_mark 1 = .ok (.getfield 35, 3) := by decide +kernel
theorem dX6_mark_4 : decode cX6_mark 4 = .ok (.ifCond .ne 74, 3) := by decide +kernel
theorem dX6_mark_7 : decode cX6_mark 7 = .ok (.aload_n 0, 1) := by decide +kernel
theorem dX6_mark_8 : decode cX6_mark 8 = .ok (.getfield 26, 3) := by decide +kernel
theorem dX6_mark_11 : decode cX6_mark 11 = .ok (.ifCond .lt 36, 3) := by decide +kernel
theorem dX6_mark_14 : decode cX6_mark 14 = .ok (.aload_n 0, 1) := by decide +kernel
theorem dX6_mark_15 : decode cX6_mark 15 = .ok (.getfield 26, 3) := by decide +kernel
theorem dX6_mark_18 : decode cX6_mark 18 = .ok (.aload_n 0, 1) := by decide +kernel
theorem dX6_mark_19 : decode cX6_mark 19 = .ok (.getfield 12, 3) := by decide +kernel
theorem dX6_mark_22 : decode cX6_mark 22 = .ok (.getfield 98, 3) := by decide +kernel
theorem dX6_mark_25 : decode cX6_mark 25 = .ok (.if_icmp .ge 22, 3) := by decide +kernel
theorem dX6_mark_28 : decode cX6_mark 28 = .ok (.aload_n 0, 1) := by decide +kernel
theorem dX6_mark_29 : decode cX6_mark 29 = .ok (.getfield 26, 3) := by decide +kernel
theorem dX6_mark_32 : decode cX6_mark 32 = .ok (.aload_n 0, 1) := by decide +kernel
theorem dX6_mark_33 : decode cX6_mark 33 = .ok (.getfield 12, 3) := by decide +kernel
theorem dX6_mark_36 : decode cX6_mark 36 = .ok (.getfield 104, 3) := by decide +kernel
theorem dX6_mark_39 : decode cX6_mark 39 = .ok (.arraylength, 1) := by decide +kernel
theorem dX6_mark_40 : decode cX6_mark 40 = .ok (.if_icmp .ge 7, 3) := by decide +kernel
theorem dX6_mark_43 : decode cX6_mark 43 = .ok (.iconst 1, 1) := by decide +kernel
theorem dX6_mark_44 : decode cX6_mark 44 = .ok (.goto 4, 3) := by decide +kernel
theorem dX6_mark_47 : decode cX6_mark 47 = .ok (.iconst 0, 1) := by decide +kernel
theorem dX6_mark_48 : decode cX6_mark 48 = .ok (.istore_n 2, 1) := by decide +kernel
theorem dX6_mark_49 : decode cX6_mark 49 = .ok (.aload_n 0, 1) := by decide +kernel
theorem dX6_mark_50 : decode cX6_mark 50 = .ok (.iload_n 1, 1) := by decide +kernel
theorem dX6_mark_51 : decode cX6_mark 51 = .ok (.bipush 16, 2) := by decide +kernel
theorem dX6_mark_53 : decode cX6_mark 53 = .ok (.iload_n 2, 1) := by decide +kernel
theorem dX6_mark_54 : decode cX6_mark 54 = .ok (.ifCond .eq 18, 3) := by decide +kernel
theorem dX6_mark_57 : decode cX6_mark 57 = .ok (.aload_n 0, 1) := by decide +kernel
theorem dX6_mark_58 : decode cX6_mark 58 = .ok (.getfield 12, 3) := by decide +kernel
theorem dX6_mark_61 : decode cX6_mark 61 = .ok (.getfield 104, 3) := by decide +kernel
theorem dX6_mark_64 : decode cX6_mark 64 = .ok (.aload_n 0, 1) := by decide +kernel
theorem dX6_mark_65 : decode cX6_mark 65 = .ok (.getfield 26, 3) := by decide +kernel
theorem dX6_mark_68 : decode cX6_mark 68 = .ok (.iaload, 1) := by decide +kernel
theorem dX6_mark_69 : decode cX6_mark 69 = .ok (.goto 4, 3) := by decide +kernel
theorem dX6_mark_72 : decode cX6_mark 72 = .ok (.iconst 0, 1) := by decide +kernel
theorem dX6_mark_73 : decode cX6_mark 73 = .ok (.imul, 1) := by decide +kernel
theorem dX6_mark_74 : decode cX6_mark 74 = .ok (.iadd, 1) := by decide +kernel
theorem dX6_mark_75 : decode cX6_mark 75 = .ok (.putfield 35, 3) := by decide +kernel
theorem dX6_mark_78 : decode cX6_mark 78 = .ok (.aload_n 0, 1) := by decide +kernel
theorem dX6_mark_79 : decode cX6_mark 79 = .ok (.sipush 10026, 3) := by decide +kernel
theorem dX6_mark_82 : decode cX6_mark 82 = .ok (.putfield 29, 3) := by decide +kernel
theorem dX6_mark_85 : decode cX6_mark 85 = .ok (.return_, 1) := by decide +kernel
theorem dX6_write_0 : decode cX6_write 0 = .ok (.aload_n 0, 1) := by decide +kernel
theorem dX6_write_1 : decode cX6_write 1 = .ok (.getfield 22, 3) := by decide +kernel
theorem dX6_write_4 : decode cX6_write 4 = .ok (.ifCond .lt 35, 3) := by decide +kernel
theorem dX6_write_7 : decode cX6_write 7 = .ok (.aload_n 0, 1) := by decide +kernel
theorem dX6_write_8 : decode cX6_write 8 = .ok (.getfield 22, 3) := by decide +kernel
theorem dX6_write_11 : decode cX6_write 11 = .ok (.aload_n 0, 1) := by decide +kernel
theorem dX6_write_12 : decode cX6_write 12 = .ok (.getfield 18, 3) := by decide +kernel
theorem dX6_write_15 : decode cX6_write 15 = .ok (.arraylength, 1) := by decide +kernel
theorem dX6_write_16 : decode cX6_write 16 = .ok (.if_icmp .ge 23, 3) := by decide +kernel
theorem dX6_write_19 : decode cX6_write 19 = .ok (.aload_n 0, 1) := by decide +kernel
theorem dX6_write_20 : decode cX6_write 20 = .ok (.getfield 18, 3) := by decide +kernel
theorem dX6_write_23 : decode cX6_write 23 = .ok (.aload_n 0, 1) := by decide +kernel
theorem dX6_write_24 : decode cX6_write 24 = .ok (.getfield 22, 3) := by decide +kernel
theorem dX6_write_27 : decode cX6_write 27 = .ok (.iload_n 1, 1) := by decide +kernel
theorem dX6_write_28 : decode cX6_write 28 = .ok (.iastore, 1) := by decide +kernel
theorem dX6_write_29 : decode cX6_write 29 = .ok (.aload_n 0, 1) := by decide +kernel
theorem dX6_write_30 : decode cX6_write 30 = .ok (.dup, 1) := by decide +kernel
theorem dX6_write_31 : decode cX6_write 31 = .ok (.getfield 22, 3) := by decide +kernel
theorem dX6_write_34 : decode cX6_write 34 = .ok (.iconst 1, 1) := by decide +kernel
theorem dX6_write_35 : decode cX6_write 35 = .ok (.iadd, 1) := by decide +kernel
theorem dX6_write_36 : decode cX6_write 36 = .ok (.putfield 22, 3) := by decide +kernel
theorem dX6_write_39 : decode cX6_write 39 = .ok (.return_, 1) := by decide +kernel
theorem dX7_init_0 : decode cX7_init 0 = .ok (.aload_n 0, 1) := by decide +kernel
theorem dX7_init_1 : decode cX7_init 1 = .ok (.invokespecial 3, 3) := by decide +kernel
theorem dX7_init_4 : decode cX7_init 4 = .ok (.aload_n 0, 1) := by decide +kernel
theorem dX7_init_5 : decode cX7_init 5 = .ok (.sipush 601, 3) := by decide +kernel
theorem dX7_init_8 : decode cX7_init 8 = .ok (.newarray .int, 2) := by decide +kernel
theorem dX7_init_10 : decode cX7_init 10 = .ok (.putfield 9, 3) := by decide +kernel
theorem dX7_init_13 : decode cX7_init 13 = .ok (.aload_n 0, 1) := by decide +kernel
theorem dX7_init_14 : decode cX7_init 14 = .ok (.sipush 601, 3) := by decide +kernel
theorem dX7_init_17 : decode cX7_init 17 = .ok (.newarray .int, 2) := by decide +kernel
theorem dX7_init_19 : decode cX7_init 19 = .ok (.putfield 15, 3) := by decide +kernel
theorem dX7_init_22 : decode cX7_init 22 = .ok (.aload_n 0, 1) := by decide +kernel
theorem dX7_init_23 : decode cX7_init 23 = .ok (.iconst 0, 1) := by decide +kernel
theorem dX7_init_24 : decode cX7_init 24 = .ok (.putfield 18, 3) := by decide +kernel
theorem dX7_init_27 : decode cX7_init 27 = .ok (.return_, 1) := by decide +kernel
set_option maxRecDepth 20000 in
theorem dX7_scan_0 : decode cX7_scan 0 = .ok (.aload_n 0, 1) := by decide +kernel
theorem dX7_scan_1 : decode cX7_scan 1 = .ok (.iconst 0, 1) := by decide +kernel
theorem dX7_scan_2 : decode cX7_scan 2 = .ok (.putfield 18, 3) := by decide +kernel
theorem dX7_scan_5 : decode cX7_scan 5 = .ok (.iconst 0, 1) := by decide +kernel
theorem dX7_scan_6 : decode cX7_scan 6 = .ok (.istore_n 2, 1) := by decide +kernel
theorem dX7_scan_7 : decode cX7_scan 7 = .ok (.iconst 0, 1) := by decide +kernel
theorem dX7_scan_8 : decode cX7_scan 8 = .ok (.istore_n 3, 1) := by decide +kernel
theorem dX7_scan_9 : decode cX7_scan 9 = .ok (.iload_n 3, 1) := by decide +kernel
theorem dX7_scan_10 : decode cX7_scan 10 = .ok (.sipush 600, 3) := by decide +kernel
theorem dX7_scan_13 : decode cX7_scan 13 = .ok (.if_icmp .ge 87, 3) := by decide +kernel
theorem dX7_scan_16 : decode cX7_scan 16 = .ok (.iload_n 2, 1) := by decide +kernel
theorem dX7_scan_17 : decode cX7_scan 17 = .ok (.aload_n 1, 1) := by decide +kernel
theorem dX7_scan_18 : decode cX7_scan 18 = .ok (.getfield 22, 3) := by decide +kernel
theorem dX7_scan_21 : decode cX7_scan 21 = .ok (.if_icmp .ge 79, 3) := by decide +kernel
theorem dX7_scan_24 : decode cX7_scan 24 = .ok (.aload_n 1, 1) := by decide +kernel
theorem dX7_scan_25 : decode cX7_scan 25 = .ok (.iload_n 2, 1) := by decide +kernel
theorem dX7_scan_26 : decode cX7_scan 26 = .ok (.invokevirtual 27, 3) := by decide +kernel
theorem dX7_scan_29 : decode cX7_scan 29 = .ok (.istore 4, 2) := by decide +kernel
theorem dX7_scan_31 : decode cX7_scan 31 = .ok (.iload 4, 2) := by decide +kernel
theorem dX7_scan_33 : decode cX7_scan 33 = .ok (.invokestatic 31, 3) := by decide +kernel
theorem dX7_scan_36 : decode cX7_scan 36 = .ok (.ifCond .eq 13, 3) := by decide +kernel
theorem dX7_scan_39 : decode cX7_scan 39 = .ok (.aload_n 0, 1) := by decide +kernel
theorem dX7_scan_40 : decode cX7_scan 40 = .ok (.aload_n 1, 1) := by decide +kernel
theorem dX7_scan_41 : decode cX7_scan 41 = .ok (.iload_n 2, 1) := by decide +kernel
theorem dX7_scan_42 : decode cX7_scan 42 = .ok (.invokevirtual 35, 3) := by decide +kernel
theorem dX7_scan_45 : decode cX7_scan 45 = .ok (.istore_n 2, 1) := by decide +kernel
theorem dX7_scan_46 : decode cX7_scan 46 = .ok (.goto 48, 3) := by decide +kernel
theorem dX7_scan_49 : decode cX7_scan 49 = .ok (.iload 4, 2) := by decide +kernel
theorem dX7_scan_51 : decode cX7_scan 51 = .ok (.invokestatic 39, 3) := by decide +kernel
theorem dX7_scan_54 : decode cX7_scan 54 = .ok (.ifCond .eq 13, 3) := by decide +kernel
theorem dX7_scan_57 : decode cX7_scan 57 = .ok (.aload_n 0, 1) := by decide +kernel
theorem dX7_scan_58 : decode cX7_scan 58 = .ok (.aload_n 1, 1) := by decide +kernel
theorem dX7_scan_59 : decode cX7_scan 59 = .ok (.iload_n 2, 1) := by decide +kernel
theorem dX7_scan_60 : decode cX7_scan 60 = .ok (.invokevirtual 42, 3) := by decide +kernel
theorem dX7_scan_63 : decode cX7_scan 63 = .ok (.istore_n 2, 1) := by decide +kernel
theorem dX7_scan_64 : decode cX7_scan 64 = .ok (.goto 30, 3) := by decide +kernel
theorem dX7_scan_67 : decode cX7_scan 67 = .ok (.iload 4, 2) := by decide +kernel
theorem dX7_scan_69 : decode cX7_scan 69 = .ok (.bipush 10, 2) := by decide +kernel
theorem dX7_scan_71 : decode cX7_scan 71 = .ok (.if_icmp .eq 20, 3) := by decide +kernel
theorem dX7_scan_74 : decode cX7_scan 74 = .ok (.iload 4, 2) := by decide +kernel
theorem dX7_scan_76 : decode cX7_scan 76 = .ok (.bipush 32, 2) := by decide +kernel
theorem dX7_scan_78 : decode cX7_scan 78 = .ok (.if_icmp .eq 13, 3) := by decide +kernel
theorem dX7_scan_81 : decode cX7_scan 81 = .ok (.aload_n 0, 1) := by decide +kernel
theorem dX7_scan_82 : decode cX7_scan 82 = .ok (.iload 4, 2) := by decide +kernel
theorem dX7_scan_84 : decode cX7_scan 84 = .ok (.invokestatic 45, 3) := by decide +kernel
theorem dX7_scan_87 : decode cX7_scan 87 = .ok (.iload_n 2, 1) := by decide +kernel
theorem dX7_scan_88 : decode cX7_scan 88 = .ok (.invokevirtual 48, 3) := by decide +kernel
theorem dX7_scan_91 : decode cX7_scan 91 = .ok (.iinc 2 1, 3) := by decide +kernel
theorem dX7_scan_94 : decode cX7_scan 94 = .ok (.iinc 3 1, 3) := by decide +kernel
theorem dX7_scan_97 : decode cX7_scan 97 = .ok (.goto (-88), 3) := by decide +kernel
theorem dX7_scan_100 : decode cX7_scan 100 = .ok (.aload_n 0, 1) := by decide +kernel
theorem dX7_scan_101 : decode cX7_scan 101 = .ok (.sipush 10025, 3) := by decide +kernel
theorem dX7_scan_104 : decode cX7_scan 104 = .ok (.aload_n 1, 1) := by decide +kernel
theorem dX7_scan_105 : decode cX7_scan 105 = .ok (.getfield 22, 3) := by decide +kernel
theorem dX7_scan_108 : decode cX7_scan 108 = .ok (.invokevirtual 48, 3) := by decide +kernel
theorem dX7_scan_111 : decode cX7_scan 111 = .ok (.return_, 1) := by decide +kernel
set_option maxRecDepth 20000 in
theorem dX7_addNumber_0 : decode cX7_addNumber 0 = .ok (.iload_n 2, 1) := by decide +kernel
theorem dX7_addNumber_1 : decode cX7_addNumber 1 = .ok (.istore_n 3, 1) := by decide +kernel
theorem dX7_addNumber_2 : decode cX7_addNumber 2 = .ok (.iconst 0, 1) := by decide +kernel
theorem dX7_addNumber_3 : decode cX7_addNumber 3 = .ok (.istore 4, 2) := by decide +kernel
theorem dX7_addNumber_5 : decode cX7_addNumber 5 = .ok (.iload_n 3, 1) := by decide +kernel
theorem dX7_addNumber_6 : decode cX7_addNumber 6 = .ok (.aload_n 1, 1) := by decide +kernel
theorem dX7_addNumber_7 : decode cX7_addNumber 7 = .ok (.getfield 22, 3) := by decide +kernel
theorem dX7_addNumber_10 : decode cX7_addNumber 10 = .ok (.if_icmp .ge 43, 3) := by decide +kernel
theorem dX7_addNumber_13 : decode cX7_addNumber 13 = .ok (.aload_n 1, 1) := by decide +kernel
theorem dX7_addNumber_14 : decode cX7_addNumber 14 = .ok (.iload_n 3, 1) := by decide +kernel
theorem dX7_addNumber_15 : decode cX7_addNumber 15 = .ok (.invokevirtual 27, 3) := by decide +kernel
theorem dX7_addNumber_18 : decode cX7_addNumber 18 = .ok (.invokestatic 31, 3) := by decide +kernel
theorem dX7_addNumber_21 : decode cX7_addNumber 21 = .ok (.ifCond .eq 32, 3) := by decide +kernel
theorem dX7_addNumber_24 : decode cX7_addNumber 24 = .ok (.iload_n 3, 1) := by decide +kernel
theorem dX7_addNumber_25 : decode cX7_addNumber 25 = .ok (.iload_n 2, 1) := by decide +kernel
theorem dX7_addNumber_26 : decode cX7_addNumber 26 = .ok (.isub, 1) := by decide +kernel
theorem dX7_addNumber_27 : decode cX7_addNumber 27 = .ok (.iconst 4, 1) := by decide +kernel
theorem dX7_addNumber_28 : decode cX7_addNumber 28 = .ok (.if_icmp .ge 19, 3) := by decide +kernel
theorem dX7_addNumber_31 : decode cX7_addNumber 31 = .ok (.iload 4, 2) := by decide +kernel
theorem dX7_addNumber_33 : decode cX7_addNumber 33 = .ok (.bipush 10, 2) := by decide +kernel
theorem dX7_addNumber_35 : decode cX7_addNumber 35 = .ok (.imul, 1) := by decide +kernel
theorem dX7_addNumber_36 : decode cX7_addNumber 36 = .ok (.aload_n 1, 1) := by decide +kernel
theorem dX7_addNumber_37 : decode cX7_addNumber 37 = .ok (.iload_n 3, 1) := by decide +kernel
theorem dX7_addNumber_38 : decode cX7_addNumber 38 = .ok (.invokevirtual 27, 3) := by decide +kernel
theorem dX7_addNumber_41 : decode cX7_addNumber 41 = .ok (.iadd, 1) := by decide +kernel
theorem dX7_addNumber_42 : decode cX7_addNumber 42 = .ok (.bipush 48, 2) := by decide +kernel
theorem dX7_addNumber_44 : decode cX7_addNumber 44 = .ok (.isub, 1) := by decide +kernel
theorem dX7_addNumber_45 : decode cX7_addNumber 45 = .ok (.istore 4, 2) := by decide +kernel
theorem dX7_addNumber_47 : decode cX7_addNumber 47 = .ok (.iinc 3 1, 3) := by decide +kernel
theorem dX7_addNumber_50 : decode cX7_addNumber 50 = .ok (.goto (-45), 3) := by decide +kernel
theorem dX7_addNumber_53 : decode cX7_addNumber 53 = .ok (.aload_n 0, 1) := by decide +kernel
theorem dX7_addNumber_54 : decode cX7_addNumber 54 = .ok (.iload_n 3, 1) := by decide +kernel
theorem dX7_addNumber_55 : decode cX7_addNumber 55 = .ok (.iload_n 2, 1) := by decide +kernel
theorem dX7_addNumber_56 : decode cX7_addNumber 56 = .ok (.isub, 1) := by decide +kernel
theorem dX7_addNumber_57 : decode cX7_addNumber 57 = .ok (.iconst 4, 1) := by decide +kernel
theorem dX7_addNumber_58 : decode cX7_addNumber 58 = .ok (.if_icmp .le 9, 3) := by decide +kernel
theorem dX7_addNumber_61 : decode cX7_addNumber 61 = .ok (.sipush 10026, 3) := by decide +kernel
theorem dX7_addNumber_64 : decode cX7_addNumber 64 = .ok (.goto 5, 3) := by decide +kernel
theorem dX7_addNumber_67 : decode cX7_addNumber 67 = .ok (.iload 4, 2) := by decide +kernel
theorem dX7_addNumber_69 : decode cX7_addNumber 69 = .ok (.iload_n 2, 1) := by decide +kernel
theorem dX7_addNumber_70 : decode cX7_addNumber 70 = .ok (.invokevirtual 48, 3) := by decide +kernel
theorem dX7_addNumber_73 : decode cX7_addNumber 73 = .ok (.iload_n 3, 1) := by decide +kernel
theorem dX7_addNumber_74 : decode cX7_addNumber 74 = .ok (.ireturn, 1) := by decide +kernel
set_option maxRecDepth 20000 in
theorem dX7_addWord_0 : decode cX7_addWord 0 = .ok (.iload_n 2, 1) := by decide +kernel
theorem dX7_addWord_1 : decode cX7_addWord 1 = .ok (.istore_n 3, 1) := by decide +kernel
theorem dX7_addWord_2 : decode cX7_addWord 2 = .ok (.iload_n 3, 1) := by decide +kernel
theorem dX7_addWord_3 : decode cX7_addWord 3 = .ok (.aload_n 1, 1) := by decide +kernel
theorem dX7_addWord_4 : decode cX7_addWord 4 = .ok (.getfield 22, 3) := by decide +kernel
theorem dX7_addWord_7 : decode cX7_addWord 7 = .ok (.if_icmp .ge 20, 3) := by decide +kernel
theorem dX7_addWord_10 : decode cX7_addWord 10 = .ok (.aload_n 1, 1) := by decide +kernel
theorem dX7_addWord_11 : decode cX7_addWord 11 = .ok (.iload_n 3, 1) := by decide +kernel
theorem dX7_addWord_12 : decode cX7_addWord 12 = .ok (.invokevirtual 27, 3) := by decide +kernel
theorem dX7_addWord_15 : decode cX7_addWord 15 = .ok (.invokestatic 39, 3) := by decide +kernel
theorem dX7_addWord_18 : decode cX7_addWord 18 = .ok (.ifCond .eq 9, 3) := by decide +kernel
theorem dX7_addWord_21 : decode cX7_addWord 21 = .ok (.iinc 3 1, 3) := by decide +kernel
theorem dX7_addWord_24 : decode cX7_addWord 24 = .ok (.goto (-22), 3) := by decide +kernel
theorem dX7_addWord_27 : decode cX7_addWord 27 = .ok (.aload_n 0, 1) := by decide +kernel
theorem dX7_addWord_28 : decode cX7_addWord 28 = .ok (.iload_n 3, 1) := by decide +kernel
theorem dX7_addWord_29 : decode cX7_addWord 29 = .ok (.iload_n 2, 1) := by decide +kernel
theorem dX7_addWord_30 : decode cX7_addWord 30 = .ok (.isub, 1) := by decide +kernel
theorem dX7_addWord_31 : decode cX7_addWord 31 = .ok (.bipush 9, 2) := by decide +kernel
theorem dX7_addWord_33 : decode cX7_addWord 33 = .ok (.if_icmp .le 9, 3) := by decide +kernel
theorem dX7_addWord_36 : decode cX7_addWord 36 = .ok (.sipush 10026, 3) := by decide +kernel
theorem dX7_addWord_39 : decode cX7_addWord 39 = .ok (.goto 9, 3) := by decide +kernel
theorem dX7_addWord_42 : decode cX7_addWord 42 = .ok (.aload_n 1, 1) := by decide +kernel
theorem dX7_addWord_43 : decode cX7_addWord 43 = .ok (.iload_n 2, 1) := by decide +kernel
theorem dX7_addWord_44 : decode cX7_addWord 44 = .ok (.iload_n 3, 1) := by decide +kernel
theorem dX7_addWord_45 : decode cX7_addWord 45 = .ok (.invokestatic 52, 3) := by decide +kernel
theorem dX7_addWord_48 : decode cX7_addWord 48 = .ok (.iload_n 2, 1) := by decide +kernel
theorem dX7_addWord_49 : decode cX7_addWord 49 = .ok (.invokevirtual 48, 3) := by decide +kernel
theorem dX7_addWord_52 : decode cX7_addWord 52 = .ok (.iload_n 3, 1) := by decide +kernel
theorem dX7_addWord_53 : decode cX7_addWord 53 = .ok (.ireturn, 1) := by decide +kernel
theorem dX7_add_0 : decode cX7_add 0 = .ok (.aload_n 0, 1) := by decide +kernel
theorem dX7_add_1 : decode cX7_add 1 = .ok (.getfield 18, 3) := by decide +kernel
theorem dX7_add_4 : decode cX7_add 4 = .ok (.aload_n 0, 1) := by decide +kernel
theorem dX7_add_5 : decode cX7_add 5 = .ok (.getfield 9, 3) := by decide +kernel
theorem dX7_add_8 : decode cX7_add 8 = .ok (.arraylength, 1) := by decide +kernel
theorem dX7_add_9 : decode cX7_add 9 = .ok (.if_icmp .ge 45, 3) := by decide +kernel
theorem dX7_add_12 : decode cX7_add 12 = .ok (.aload_n 0, 1) := by decide +kernel
theorem dX7_add_13 : decode cX7_add 13 = .ok (.getfield 18, 3) := by decide +kernel
theorem dX7_add_16 : decode cX7_add 16 = .ok (.aload_n 0, 1) := by decide +kernel
theorem dX7_add_17 : decode cX7_add 17 = .ok (.getfield 15, 3) := by decide +kernel
theorem dX7_add_20 : decode cX7_add 20 = .ok (.arraylength, 1) := by decide +kernel
theorem dX7_add_21 : decode cX7_add 21 = .ok (.if_icmp .ge 33, 3) := by decide +kernel
theorem dX7_add_24 : decode cX7_add 24 = .ok (.aload_n 0, 1) := by decide +kernel
theorem dX7_add_25 : decode cX7_add 25 = .ok (.getfield 9, 3) := by decide +kernel
theorem dX7_add_28 : decode cX7_add 28 = .ok (.aload_n 0, 1) := by decide +kernel
theorem dX7_add_29 : decode cX7_add 29 = .ok (.getfield 18, 3) := by decide +kernel
theorem dX7_add_32 : decode cX7_add 32 = .ok (.iload_n 1, 1) := by decide +kernel
theorem dX7_add_33 : decode cX7_add 33 = .ok (.iastore, 1) := by decide +kernel
theorem dX7_add_34 : decode cX7_add 34 = .ok (.aload_n 0, 1) := by decide +kernel
theorem dX7_add_35 : decode cX7_add 35 = .ok (.getfield 15, 3) := by decide +kernel
theorem dX7_add_38 : decode cX7_add 38 = .ok (.aload_n 0, 1) := by decide +kernel
theorem dX7_add_39 : decode cX7_add 39 = .ok (.getfield 18, 3) := by decide +kernel
theorem dX7_add_42 : decode cX7_add 42 = .ok (.iload_n 2, 1) := by decide +kernel
theorem dX7_add_43 : decode cX7_add 43 = .ok (.iastore, 1) := by decide +kernel
theorem dX7_add_44 : decode cX7_add 44 = .ok (.aload_n 0, 1) := by decide +kernel
theorem dX7_add_45 : decode cX7_add 45 = .ok (.dup, 1) := by decide +kernel
theorem dX7_add_46 : decode cX7_add 46 = .ok (.getfield 18, 3) := by decide +kernel
theorem dX7_add_49 : decode cX7_add 49 = .ok (.iconst 1, 1) := by decide +kernel
theorem dX7_add_50 : decode cX7_add 50 = .ok (.iadd, 1) := by decide +kernel
theorem dX7_add_51 : decode cX7_add 51 = .ok (.putfield 18, 3) := by decide +kernel
theorem dX7_add_54 : decode cX7_add 54 = .ok (.return_, 1) := by decide +kernel
set_option maxRecDepth 20000 in
theorem dX7_isDigit_0 : decode cX7_isDigit 0 = .ok (.iload_n 0, 1) := by decide +kernel
theorem dX7_isDigit_1 : decode cX7_isDigit 1 = .ok (.bipush 48, 2) := by decide +kernel
theorem dX7_isDigit_3 : decode cX7_isDigit 3 = .ok (.bipush 57, 2) := by decide +kernel
theorem dX7_isDigit_5 : decode cX7_isDigit 5 = .ok (.invokestatic 56, 3) := by decide +kernel
theorem dX7_isDigit_8 : decode cX7_isDigit 8 = .ok (.ireturn, 1) := by decide +kernel
set_option maxRecDepth 20000 in
theorem dX7_isLetter_0 : decode cX7_isLetter 0 = .ok (.iload_n 0, 1) := by decide +kernel
theorem dX7_isLetter_1 : decode cX7_isLetter 1 = .ok (.bipush 97, 2) := by decide +kernel
theorem dX7_isLetter_3 : decode cX7_isLetter 3 = .ok (.bipush 122, 2) := by decide +kernel
theorem dX7_isLetter_5 : decode cX7_isLetter 5 = .ok (.invokestatic 56, 3) := by decide +kernel
theorem dX7_isLetter_8 : decode cX7_isLetter 8 = .ok (.ireturn, 1) := by decide +kernel
theorem dX7_signKind_0 : decode cX7_signKind 0 = .ok (.iload_n 0, 1) := by decide +kernel
theorem dX7_signKind_1 : decode cX7_signKind 1 = .ok (.tableswitch 131 40 61 #[103, 107, 131, 119, 131, 123, 131, 131, 131, 131, 131, 131, 131, 131, 131, 131, 131, 131, 131, 127, 111, 115], 103) := by decide +kernel
theorem dX7_signKind_104 : decode cX7_signKind 104 = .ok (.sipush 10022, 3) := by decide +kernel
theorem dX7_signKind_107 : decode cX7_signKind 107 = .ok (.ireturn, 1) := by decide +kernel
theorem dX7_signKind_108 : decode cX7_signKind 108 = .ok (.sipush 10023, 3) := by decide +kernel
theorem dX7_signKind_111 : decode cX7_signKind 111 = .ok (.ireturn, 1) := by decide +kernel
theorem dX7_signKind_112 : decode cX7_signKind 112 = .ok (.sipush 10012, 3) := by decide +kernel
theorem dX7_signKind_115 : decode cX7_signKind 115 = .ok (.ireturn, 1) := by decide +kernel
theorem dX7_signKind_116 : decode cX7_signKind 116 = .ok (.sipush 10013, 3) := by decide +kernel
theorem dX7_signKind_119 : decode cX7_signKind 119 = .ok (.ireturn, 1) := by decide +kernel
theorem dX7_signKind_120 : decode cX7_signKind 120 = .ok (.sipush 10010, 3) := by decide +kernel
theorem dX7_signKind_123 : decode cX7_signKind 123 = .ok (.ireturn, 1) := by decide +kernel
theorem dX7_signKind_124 : decode cX7_signKind 124 = .ok (.sipush 10011, 3) := by decide +kernel
theorem dX7_signKind_127 : decode cX7_signKind 127 = .ok (.ireturn, 1) := by decide +kernel
theorem dX7_signKind_128 : decode cX7_signKind 128 = .ok (.sipush 10024, 3) := by decide +kernel
theorem dX7_signKind_131 : decode cX7_signKind 131 = .ok (.ireturn, 1) := by decide +kernel
theorem dX7_signKind_132 : decode cX7_signKind 132 = .ok (.sipush 10026, 3) := by decide +kernel
theorem dX7_signKind_135 : decode cX7_signKind 135 = .ok (.ireturn, 1) := by decide +kernel
set_option maxRecDepth 20000 in
theorem dX7_wordKind_0 : decode cX7_wordKind 0 = .ok (.aload_n 0, 1) := by decide +kernel
theorem dX7_wordKind_1 : decode cX7_wordKind 1 = .ok (.iload_n 1, 1) := by decide +kernel
theorem dX7_wordKind_2 : decode cX7_wordKind 2 = .ok (.iload_n 2, 1) := by decide +kernel
theorem dX7_wordKind_3 : decode cX7_wordKind 3 = .ok (.ldc 60, 2) := by decide +kernel
theorem dX7_wordKind_5 : decode cX7_wordKind 5 = .ok (.invokestatic 62, 3) := by decide +kernel
theorem dX7_wordKind_8 : decode cX7_wordKind 8 = .ok (.ifCond .eq 7, 3) := by decide +kernel
theorem dX7_wordKind_11 : decode cX7_wordKind 11 = .ok (.sipush 10020, 3) := by decide +kernel
theorem dX7_wordKind_14 : decode cX7_wordKind 14 = .ok (.ireturn, 1) := by decide +kernel
theorem dX7_wordKind_15 : decode cX7_wordKind 15 = .ok (.aload_n 0, 1) := by decide +kernel
theorem dX7_wordKind_16 : decode cX7_wordKind 16 = .ok (.iload_n 1, 1) := by decide +kernel
theorem dX7_wordKind_17 : decode cX7_wordKind 17 = .ok (.iload_n 2, 1) := by decide +kernel
theorem dX7_wordKind_18 : decode cX7_wordKind 18 = .ok (.ldc 66, 2) := by decide +kernel
theorem dX7_wordKind_20 : decode cX7_wordKind 20 = .ok (.invokestatic 62, 3) := by decide +kernel
theorem dX7_wordKind_23 : decode cX7_wordKind 23 = .ok (.ifCond .eq 7, 3) := by decide +kernel
theorem dX7_wordKind_26 : decode cX7_wordKind 26 = .ok (.sipush 10021, 3) := by decide +kernel
theorem dX7_wordKind_29 : decode cX7_wordKind 29 = .ok (.ireturn, 1) := by decide +kernel
theorem dX7_wordKind_30 : decode cX7_wordKind 30 = .ok (.aload_n 0, 1) := by decide +kernel
theorem dX7_wordKind_31 : decode cX7_wordKind 31 = .ok (.iload_n 1, 1) := by decide +kernel
theorem dX7_wordKind_32 : decode cX7_wordKind 32 = .ok (.iload_n 2, 1) := by decide +kernel
theorem dX7_wordKind_33 : decode cX7_wordKind 33 = .ok (.ldc 68, 2) := by decide +kernel
theorem dX7_wordKind_35 : decode cX7_wordKind 35 = .ok (.invokestatic 62, 3) := by decide +kernel
theorem dX7_wordKind_38 : decode cX7_wordKind 38 = .ok (.ifCond .eq 7, 3) := by decide +kernel
theorem dX7_wordKind_41 : decode cX7_wordKind 41 = .ok (.sipush 10014, 3) := by decide +kernel
theorem dX7_wordKind_44 : decode cX7_wordKind 44 = .ok (.ireturn, 1) := by decide +kernel
theorem dX7_wordKind_45 : decode cX7_wordKind 45 = .ok (.aload_n 0, 1) := by decide +kernel
theorem dX7_wordKind_46 : decode cX7_wordKind 46 = .ok (.iload_n 1, 1) := by decide +kernel
theorem dX7_wordKind_47 : decode cX7_wordKind 47 = .ok (.iload_n 2, 1) := by decide +kernel
theorem dX7_wordKind_48 : decode cX7_wordKind 48 = .ok (.ldc 70, 2) := by decide +kernel
theorem dX7_wordKind_50 : decode cX7_wordKind 50 = .ok (.invokestatic 62, 3) := by decide +kernel
theorem dX7_wordKind_53 : decode cX7_wordKind 53 = .ok (.ifCond .eq 7, 3) := by decide +kernel
theorem dX7_wordKind_56 : decode cX7_wordKind 56 = .ok (.sipush 10000, 3) := by decide +kernel
theorem dX7_wordKind_59 : decode cX7_wordKind 59 = .ok (.ireturn, 1) := by decide +kernel
theorem dX7_wordKind_60 : decode cX7_wordKind 60 = .ok (.aload_n 0, 1) := by decide +kernel
theorem dX7_wordKind_61 : decode cX7_wordKind 61 = .ok (.iload_n 1, 1) := by decide +kernel
theorem dX7_wordKind_62 : decode cX7_wordKind 62 = .ok (.iload_n 2, 1) := by decide +kernel
theorem dX7_wordKind_63 : decode cX7_wordKind 63 = .ok (.ldc 72, 2) := by decide +kernel
theorem dX7_wordKind_65 : decode cX7_wordKind 65 = .ok (.invokestatic 62, 3) := by decide +kernel
theorem dX7_wordKind_68 : decode cX7_wordKind 68 = .ok (.ifCond .eq 7, 3) := by decide +kernel
theorem dX7_wordKind_71 : decode cX7_wordKind 71 = .ok (.sipush 10001, 3) := by decide +kernel
theorem dX7_wordKind_74 : decode cX7_wordKind 74 = .ok (.ireturn, 1) := by decide +kernel
theorem dX7_wordKind_75 : decode cX7_wordKind 75 = .ok (.aload_n 0, 1) := by decide +kernel
theorem dX7_wordKind_76 : decode cX7_wordKind 76 = .ok (.iload_n 1, 1) := by decide +kernel
theorem dX7_wordKind_77 : decode cX7_wordKind 77 = .ok (.iload_n 2, 1) := by decide +kernel
theorem dX7_wordKind_78 : decode cX7_wordKind 78 = .ok (.ldc 74, 2) := by decide +kernel
theorem dX7_wordKind_80 : decode cX7_wordKind 80 = .ok (.invokestatic 62, 3) := by decide +kernel
theorem dX7_wordKind_83 : decode cX7_wordKind 83 = .ok (.ifCond .eq 7, 3) := by decide +kernel
theorem dX7_wordKind_86 : decode cX7_wordKind 86 = .ok (.sipush 10002, 3) := by decide +kernel
theorem dX7_wordKind_89 : decode cX7_wordKind 89 = .ok (.ireturn, 1) := by decide +kernel
theorem dX7_wordKind_90 : decode cX7_wordKind 90 = .ok (.aload_n 0, 1) := by decide +kernel
theorem dX7_wordKind_91 : decode cX7_wordKind 91 = .ok (.iload_n 1, 1) := by decide +kernel
theorem dX7_wordKind_92 : decode cX7_wordKind 92 = .ok (.iload_n 2, 1) := by decide +kernel
theorem dX7_wordKind_93 : decode cX7_wordKind 93 = .ok (.ldc 76, 2) := by decide +kernel
theorem dX7_wordKind_95 : decode cX7_wordKind 95 = .ok (.invokestatic 62, 3) := by decide +kernel
theorem dX7_wordKind_98 : decode cX7_wordKind 98 = .ok (.ifCond .eq 7, 3) := by decide +kernel
theorem dX7_wordKind_101 : decode cX7_wordKind 101 = .ok (.sipush 10003, 3) := by decide +kernel
theorem dX7_wordKind_104 : decode cX7_wordKind 104 = .ok (.ireturn, 1) := by decide +kernel
theorem dX7_wordKind_105 : decode cX7_wordKind 105 = .ok (.aload_n 0, 1) := by decide +kernel
theorem dX7_wordKind_106 : decode cX7_wordKind 106 = .ok (.iload_n 1, 1) := by decide +kernel
theorem dX7_wordKind_107 : decode cX7_wordKind 107 = .ok (.iload_n 2, 1) := by decide +kernel
theorem dX7_wordKind_108 : decode cX7_wordKind 108 = .ok (.ldc 78, 2) := by decide +kernel
theorem dX7_wordKind_110 : decode cX7_wordKind 110 = .ok (.invokestatic 62, 3) := by decide +kernel
theorem dX7_wordKind_113 : decode cX7_wordKind 113 = .ok (.ifCond .eq 9, 3) := by decide +kernel
theorem dX7_wordKind_116 : decode cX7_wordKind 116 = .ok (.sipush 10004, 3) := by decide +kernel
theorem dX7_wordKind_119 : decode cX7_wordKind 119 = .ok (.goto 6, 3) := by decide +kernel
theorem dX7_wordKind_122 : decode cX7_wordKind 122 = .ok (.sipush 10026, 3) := by decide +kernel
theorem dX7_wordKind_125 : decode cX7_wordKind 125 = .ok (.ireturn, 1) := by decide +kernel
set_option maxRecDepth 20000 in
theorem dX7_spells_0 : decode cX7_spells 0 = .ok (.iload_n 2, 1) := by decide +kernel
theorem dX7_spells_1 : decode cX7_spells 1 = .ok (.iload_n 1, 1) := by decide +kernel
theorem dX7_spells_2 : decode cX7_spells 2 = .ok (.isub, 1) := by decide +kernel
theorem dX7_spells_3 : decode cX7_spells 3 = .ok (.aload_n 3, 1) := by decide +kernel
theorem dX7_spells_4 : decode cX7_spells 4 = .ok (.invokevirtual 80, 3) := by decide +kernel
theorem dX7_spells_7 : decode cX7_spells 7 = .ok (.if_icmp .eq 5, 3) := by decide +kernel
theorem dX7_spells_10 : decode cX7_spells 10 = .ok (.iconst 0, 1) := by decide +kernel
theorem dX7_spells_11 : decode cX7_spells 11 = .ok (.ireturn, 1) := by decide +kernel
theorem dX7_spells_12 : decode cX7_spells 12 = .ok (.iconst 0, 1) := by decide +kernel
theorem dX7_spells_13 : decode cX7_spells 13 = .ok (.istore 4, 2) := by decide +kernel
theorem dX7_spells_15 : decode cX7_spells 15 = .ok (.iload 4, 2) := by decide +kernel
theorem dX7_spells_17 : decode cX7_spells 17 = .ok (.aload_n 3, 1) := by decide +kernel
theorem dX7_spells_18 : decode cX7_spells 18 = .ok (.invokevirtual 80, 3) := by decide +kernel
theorem dX7_spells_21 : decode cX7_spells 21 = .ok (.if_icmp .ge 28, 3) := by decide +kernel
theorem dX7_spells_24 : decode cX7_spells 24 = .ok (.aload_n 0, 1) := by decide +kernel
theorem dX7_spells_25 : decode cX7_spells 25 = .ok (.iload_n 1, 1) := by decide +kernel
theorem dX7_spells_26 : decode cX7_spells 26 = .ok (.iload 4, 2) := by decide +kernel
theorem dX7_spells_28 : decode cX7_spells 28 = .ok (.iadd, 1) := by decide +kernel
theorem dX7_spells_29 : decode cX7_spells 29 = .ok (.invokevirtual 27, 3) := by decide +kernel
theorem dX7_spells_32 : decode cX7_spells 32 = .ok (.aload_n 3, 1) := by decide +kernel
theorem dX7_spells_33 : decode cX7_spells 33 = .ok (.iload 4, 2) := by decide +kernel
theorem dX7_spells_35 : decode cX7_spells 35 = .ok (.invokevirtual 85, 3) := by decide +kernel
theorem dX7_spells_38 : decode cX7_spells 38 = .ok (.if_icmp .eq 5, 3) := by decide +kernel
theorem dX7_spells_41 : decode cX7_spells 41 = .ok (.iconst 0, 1) := by decide +kernel
theorem dX7_spells_42 : decode cX7_spells 42 = .ok (.ireturn, 1) := by decide +kernel
theorem dX7_spells_43 : decode cX7_spells 43 = .ok (.iinc 4 1, 3) := by decide +kernel
theorem dX7_spells_46 : decode cX7_spells 46 = .ok (.goto (-31), 3) := by decide +kernel
theorem dX7_spells_49 : decode cX7_spells 49 = .ok (.iconst 1, 1) := by decide +kernel
theorem dX7_spells_50 : decode cX7_spells 50 = .ok (.ireturn, 1) := by decide +kernel
set_option maxRecDepth 20000 in
theorem dX8_init_0 : decode cX8_init 0 = .ok (.aload_n 0, 1) := by decide +kernel
theorem dX8_init_1 : decode cX8_init 1 = .ok (.invokespecial 3, 3) := by decide +kernel
theorem dX8_init_4 : decode cX8_init 4 = .ok (.aload_n 0, 1) := by decide +kernel
theorem dX8_init_5 : decode cX8_init 5 = .ok (.new 9, 3) := by decide +kernel
theorem dX8_init_8 : decode cX8_init 8 = .ok (.dup, 1) := by decide +kernel
theorem dX8_init_9 : decode cX8_init 9 = .ok (.invokespecial 11, 3) := by decide +kernel
theorem dX8_init_12 : decode cX8_init 12 = .ok (.putfield 12, 3) := by decide +kernel
theorem dX8_init_15 : decode cX8_init 15 = .ok (.aload_n 0, 1) := by decide +kernel
theorem dX8_init_16 : decode cX8_init 16 = .ok (.new 9, 3) := by decide +kernel
theorem dX8_init_19 : decode cX8_init 19 = .ok (.dup, 1) := by decide +kernel
theorem dX8_init_20 : decode cX8_init 20 = .ok (.invokespecial 11, 3) := by decide +kernel
theorem dX8_init_23 : decode cX8_init 23 = .ok (.putfield 16, 3) := by decide +kernel
theorem dX8_init_26 : decode cX8_init 26 = .ok (.aload_n 0, 1) := by decide +kernel
theorem dX8_init_27 : decode cX8_init 27 = .ok (.new 9, 3) := by decide +kernel
theorem dX8_init_30 : decode cX8_init 30 = .ok (.dup, 1) := by decide +kernel
theorem dX8_init_31 : decode cX8_init 31 = .ok (.invokespecial 11, 3) := by decide +kernel
theorem dX8_init_34 : decode cX8_init 34 = .ok (.putfield 19, 3) := by decide +kernel
theorem dX8_init_37 : decode cX8_init 37 = .ok (.aload_n 0, 1) := by decide +kernel
theorem dX8_init_38 : decode cX8_init 38 = .ok (.new 22, 3) := by decide +kernel
theorem dX8_init_41 : decode cX8_init 41 = .ok (.dup, 1) := by decide +kernel
theorem dX8_init_42 : decode cX8_init 42 = .ok (.invokespecial 24, 3) := by decide +kernel
theorem dX8_init_45 : decode cX8_init 45 = .ok (.putfield 25, 3) := by decide +kernel
theorem dX8_init_48 : decode cX8_init 48 = .ok (.aload_n 0, 1) := by decide +kernel
theorem dX8_init_49 : decode cX8_init 49 = .ok (.new 29, 3) := by decide +kernel
theorem dX8_init_52 : decode cX8_init 52 = .ok (.dup, 1) := by decide +kernel
theorem dX8_init_53 : decode cX8_init 53 = .ok (.invokespecial 31, 3) := by decide +kernel
theorem dX8_init_56 : decode cX8_init 56 = .ok (.putfield 32, 3) := by decide +kernel
theorem dX8_init_59 : decode cX8_init 59 = .ok (.aload_n 0, 1) := by decide +kernel
theorem dX8_init_60 : decode cX8_init 60 = .ok (.new 36, 3) := by decide +kernel
theorem dX8_init_63 : decode cX8_init 63 = .ok (.dup, 1) := by decide +kernel
theorem dX8_init_64 : decode cX8_init 64 = .ok (.invokespecial 38, 3) := by decide +kernel
theorem dX8_init_67 : decode cX8_init 67 = .ok (.putfield 39, 3) := by decide +kernel
theorem dX8_init_70 : decode cX8_init 70 = .ok (.aload_n 0, 1) := by decide +kernel
theorem dX8_init_71 : decode cX8_init 71 = .ok (.bipush 50, 2) := by decide +kernel
theorem dX8_init_73 : decode cX8_init 73 = .ok (.anewarray 43, 3) := by decide +kernel
theorem dX8_init_76 : decode cX8_init 76 = .ok (.putfield 45, 3) := by decide +kernel
theorem dX8_init_79 : decode cX8_init 79 = .ok (.aload_n 0, 1) := by decide +kernel
theorem dX8_init_80 : decode cX8_init 80 = .ok (.new 43, 3) := by decide +kernel
theorem dX8_init_83 : decode cX8_init 83 = .ok (.dup, 1) := by decide +kernel
theorem dX8_init_84 : decode cX8_init 84 = .ok (.iconst 0, 1) := by decide +kernel
theorem dX8_init_85 : decode cX8_init 85 = .ok (.newarray .int, 2) := by decide +kernel
theorem dX8_init_87 : decode cX8_init 87 = .ok (.iconst 0, 1) := by decide +kernel
theorem dX8_init_88 : decode cX8_init 88 = .ok (.invokespecial 49, 3) := by decide +kernel
theorem dX8_init_91 : decode cX8_init 91 = .ok (.putfield 52, 3) := by decide +kernel
theorem dX8_init_94 : decode cX8_init 94 = .ok (.aload_n 0, 1) := by decide +kernel
theorem dX8_init_95 : decode cX8_init 95 = .ok (.iconst 0, 1) := by decide +kernel
theorem dX8_init_96 : decode cX8_init 96 = .ok (.putfield 56, 3) := by decide +kernel
theorem dX8_init_99 : decode cX8_init 99 = .ok (.aload_n 0, 1) := by decide +kernel
theorem dX8_init_100 : decode cX8_init 100 = .ok (.iconst 0, 1) := by decide +kernel
theorem dX8_init_101 : decode cX8_init 101 = .ok (.putfield 60, 3) := by decide +kernel
theorem dX8_init_104 : decode cX8_init 104 = .ok (.return_, 1) := by decide +kernel
set_option maxRecDepth 20000 in
theorem dX8_feature_0 : decode cX8_feature 0 = .ok (.iload_n 3, 1) := by decide +kernel
theorem dX8_feature_1 : decode cX8_feature 1 = .ok (.iconst 0, 1) := by decide +kernel
theorem dX8_feature_2 : decode cX8_feature 2 = .ok (.bipush 100, 2) := by decide +kernel
theorem dX8_feature_4 : decode cX8_feature 4 = .ok (.invokestatic 63, 3) := by decide +kernel
theorem dX8_feature_7 : decode cX8_feature 7 = .ok (.ifCond .eq 29, 3) := by decide +kernel
theorem dX8_feature_10 : decode cX8_feature 10 = .ok (.iload 4, 2) := by decide +kernel
theorem dX8_feature_12 : decode cX8_feature 12 = .ok (.iconst 0, 1) := by decide +kernel
theorem dX8_feature_13 : decode cX8_feature 13 = .ok (.bipush 100, 2) := by decide +kernel
theorem dX8_feature_15 : decode cX8_feature 15 = .ok (.invokestatic 63, 3) := by decide +kernel
theorem dX8_feature_18 : decode cX8_feature 18 = .ok (.ifCond .eq 18, 3) := by decide +kernel
theorem dX8_feature_21 : decode cX8_feature 21 = .ok (.iload 5, 2) := by decide +kernel
theorem dX8_feature_23 : decode cX8_feature 23 = .ok (.iconst 0, 1) := by decide +kernel
theorem dX8_feature_24 : decode cX8_feature 24 = .ok (.bipush 100, 2) := by decide +kernel
theorem dX8_feature_26 : decode cX8_feature 26 = .ok (.invokestatic 63, 3) := by decide +kernel
theorem dX8_feature_29 : decode cX8_feature 29 = .ok (.ifCond .eq 7, 3) := by decide +kernel
theorem dX8_feature_32 : decode cX8_feature 32 = .ok (.iconst 1, 1) := by decide +kernel
theorem dX8_feature_33 : decode cX8_feature 33 = .ok (.goto 4, 3) := by decide +kernel
theorem dX8_feature_36 : decode cX8_feature 36 = .ok (.iconst 0, 1) := by decide +kernel
theorem dX8_feature_37 : decode cX8_feature 37 = .ok (.istore 6, 2) := by decide +kernel
theorem dX8_feature_39 : decode cX8_feature 39 = .ok (.iload 6, 2) := by decide +kernel
theorem dX8_feature_41 : decode cX8_feature 41 = .ok (.ifCond .eq 13, 3) := by decide +kernel
theorem dX8_feature_44 : decode cX8_feature 44 = .ok (.iload_n 3, 1) := by decide +kernel
theorem dX8_feature_45 : decode cX8_feature 45 = .ok (.iload 4, 2) := by decide +kernel
theorem dX8_feature_47 : decode cX8_feature 47 = .ok (.iadd, 1) := by decide +kernel
theorem dX8_feature_48 : decode cX8_feature 48 = .ok (.iload 5, 2) := by decide +kernel
theorem dX8_feature_50 : decode cX8_feature 50 = .ok (.iadd, 1) := by decide +kernel
theorem dX8_feature_51 : decode cX8_feature 51 = .ok (.ifCond .ne 5, 3) := by decide +kernel
theorem dX8_feature_54 : decode cX8_feature 54 = .ok (.iconst (-1), 1) := by decide +kernel
theorem dX8_feature_55 : decode cX8_feature 55 = .ok (.ireturn, 1) := by decide +kernel
theorem dX8_feature_56 : decode cX8_feature 56 = .ok (.iload_n 1, 1) := by decide +kernel
theorem dX8_feature_57 : decode cX8_feature 57 = .ok (.iconst 0, 1) := by decide +kernel
theorem dX8_feature_58 : decode cX8_feature 58 = .ok (.iconst 3, 1) := by decide +kernel
theorem dX8_feature_59 : decode cX8_feature 59 = .ok (.invokestatic 63, 3) := by decide +kernel
theorem dX8_feature_62 : decode cX8_feature 62 = .ok (.ifCond .eq 26, 3) := by decide +kernel
theorem dX8_feature_65 : decode cX8_feature 65 = .ok (.iload_n 2, 1) := by decide +kernel
theorem dX8_feature_66 : decode cX8_feature 66 = .ok (.iconst 0, 1) := by decide +kernel
theorem dX8_feature_67 : decode cX8_feature 67 = .ok (.sipush 500, 3) := by decide +kernel
theorem dX8_feature_70 : decode cX8_feature 70 = .ok (.invokestatic 63, 3) := by decide +kernel
theorem dX8_feature_73 : decode cX8_feature 73 = .ok (.ifCond .eq 15, 3) := by decide +kernel
theorem dX8_feature_76 : decode cX8_feature 76 = .ok (.aload_n 0, 1) := by decide +kernel
theorem dX8_feature_77 : decode cX8_feature 77 = .ok (.getfield 12, 3) := by decide +kernel
theorem dX8_feature_80 : decode cX8_feature 80 = .ok (.invokevirtual 67, 3) := by decide +kernel
theorem dX8_feature_83 : decode cX8_feature 83 = .ok (.bipush 10, 2) := by decide +kernel
theorem dX8_feature_85 : decode cX8_feature 85 = .ok (.if_icmp .lt 5, 3) := by decide +kernel
theorem dX8_feature_88 : decode cX8_feature 88 = .ok (.iconst (-1), 1) := by decide +kernel
theorem dX8_feature_89 : decode cX8_feature 89 = .ok (.ireturn, 1) := by decide +kernel
theorem dX8_feature_90 : decode cX8_feature 90 = .ok (.new 71, 3) := by decide +kernel
theorem dX8_feature_93 : decode cX8_feature 93 = .ok (.dup, 1) := by decide +kernel
theorem dX8_feature_94 : decode cX8_feature 94 = .ok (.aload_n 0, 1) := by decide +kernel
theorem dX8_feature_95 : decode cX8_feature 95 = .ok (.getfield 12, 3) := by decide +kernel
theorem dX8_feature_98 : decode cX8_feature 98 = .ok (.invokevirtual 67, 3) := by decide +kernel
theorem dX8_feature_101 : decode cX8_feature 101 = .ok (.iload_n 1, 1) := by decide +kernel
theorem dX8_feature_102 : decode cX8_feature 102 = .ok (.iload_n 2, 1) := by decide +kernel
theorem dX8_feature_103 : decode cX8_feature 103 = .ok (.iload_n 3, 1) := by decide +kernel
theorem dX8_feature_104 : decode cX8_feature 104 = .ok (.iload 4, 2) := by decide +kernel
theorem dX8_feature_106 : decode cX8_feature 106 = .ok (.iload 5, 2) := by decide +kernel
theorem dX8_feature_108 : decode cX8_feature 108 = .ok (.invokespecial 73, 3) := by decide +kernel
theorem dX8_feature_111 : decode cX8_feature 111 = .ok (.astore 7, 2) := by decide +kernel
theorem dX8_feature_113 : decode cX8_feature 113 = .ok (.aload_n 0, 1) := by decide +kernel
theorem dX8_feature_114 : decode cX8_feature 114 = .ok (.getfield 12, 3) := by decide +kernel
theorem dX8_feature_117 : decode cX8_feature 117 = .ok (.aload 7, 2) := by decide +kernel
theorem dX8_feature_119 : decode cX8_feature 119 = .ok (.invokevirtual 76, 3) := by decide +kernel
theorem dX8_feature_122 : decode cX8_feature 122 = .ok (.pop, 1) := by decide +kernel
theorem dX8_feature_123 : decode cX8_feature 123 = .ok (.aload 7, 2) := by decide +kernel
theorem dX8_feature_125 : decode cX8_feature 125 = .ok (.getfield 80, 3) := by decide +kernel
theorem dX8_feature_128 : decode cX8_feature 128 = .ok (.ireturn, 1) := by decide +kernel
set_option maxRecDepth 20000 in
theorem dX8_paper_0 : decode cX8_paper 0 = .ok (.iload_n 1, 1) := by decide +kernel
theorem dX8_paper_1 : decode cX8_paper 1 = .ok (.iconst 0, 1) := by decide +kernel
theorem dX8_paper_2 : decode cX8_paper 2 = .ok (.sipush 999, 3) := by decide +kernel
theorem dX8_paper_5 : decode cX8_paper 5 = .ok (.invokestatic 63, 3) := by decide +kernel
theorem dX8_paper_8 : decode cX8_paper 8 = .ok (.ifCond .eq 21, 3) := by decide +kernel
theorem dX8_paper_11 : decode cX8_paper 11 = .ok (.iload_n 2, 1) := by decide +kernel
theorem dX8_paper_12 : decode cX8_paper 12 = .ok (.iconst 0, 1) := by decide +kernel
theorem dX8_paper_13 : decode cX8_paper 13 = .ok (.sipush 999, 3) := by decide +kernel
theorem dX8_paper_16 : decode cX8_paper 16 = .ok (.invokestatic 63, 3) := by decide +kernel
theorem dX8_paper_19 : decode cX8_paper 19 = .ok (.ifCond .eq 10, 3) := by decide +kernel
theorem dX8_paper_22 : decode cX8_paper 22 = .ok (.iload_n 3, 1) := by decide +kernel
theorem dX8_paper_23 : decode cX8_paper 23 = .ok (.invokestatic 83, 3) := by decide +kernel
theorem dX8_paper_26 : decode cX8_paper 26 = .ok (.ifCond .ne 5, 3) := by decide +kernel
theorem dX8_paper_29 : decode cX8_paper 29 = .ok (.iconst (-1), 1) := by decide +kernel
theorem dX8_paper_30 : decode cX8_paper 30 = .ok (.ireturn, 1) := by decide +kernel
theorem dX8_paper_31 : decode cX8_paper 31 = .ok (.aload_n 0, 1) := by decide +kernel
theorem dX8_paper_32 : decode cX8_paper 32 = .ok (.getfield 16, 3) := by decide +kernel
theorem dX8_paper_35 : decode cX8_paper 35 = .ok (.invokevirtual 67, 3) := by decide +kernel
theorem dX8_paper_38 : decode cX8_paper 38 = .ok (.bipush 20, 2) := by decide +kernel
theorem dX8_paper_40 : decode cX8_paper 40 = .ok (.if_icmp .lt 5, 3) := by decide +kernel
theorem dX8_paper_43 : decode cX8_paper 43 = .ok (.iconst (-1), 1) := by decide +kernel
theorem dX8_paper_44 : decode cX8_paper 44 = .ok (.ireturn, 1) := by decide +kernel
theorem dX8_paper_45 : decode cX8_paper 45 = .ok (.new 87, 3) := by decide +kernel
theorem dX8_paper_48 : decode cX8_paper 48 = .ok (.dup, 1) := by decide +kernel
theorem dX8_paper_49 : decode cX8_paper 49 = .ok (.aload_n 0, 1) := by decide +kernel
theorem dX8_paper_50 : decode cX8_paper 50 = .ok (.getfield 16, 3) := by decide +kernel
theorem dX8_paper_53 : decode cX8_paper 53 = .ok (.invokevirtual 67, 3) := by decide +kernel
theorem dX8_paper_56 : decode cX8_paper 56 = .ok (.iload_n 1, 1) := by decide +kernel
theorem dX8_paper_57 : decode cX8_paper 57 = .ok (.iload_n 2, 1) := by decide +kernel
theorem dX8_paper_58 : decode cX8_paper 58 = .ok (.iload_n 3, 1) := by decide +kernel
theorem dX8_paper_59 : decode cX8_paper 59 = .ok (.invokespecial 89, 3) := by decide +kernel
theorem dX8_paper_62 : decode cX8_paper 62 = .ok (.astore 4, 2) := by decide +kernel
theorem dX8_paper_64 : decode cX8_paper 64 = .ok (.aload_n 0, 1) := by decide +kernel
theorem dX8_paper_65 : decode cX8_paper 65 = .ok (.getfield 16, 3) := by decide +kernel
theorem dX8_paper_68 : decode cX8_paper 68 = .ok (.aload 4, 2) := by decide +kernel
theorem dX8_paper_70 : decode cX8_paper 70 = .ok (.invokevirtual 76, 3) := by decide +kernel
theorem dX8_paper_73 : decode cX8_paper 73 = .ok (.pop, 1) := by decide +kernel
theorem dX8_paper_74 : decode cX8_paper 74 = .ok (.aload 4, 2) := by decide +kernel
theorem dX8_paper_76 : decode cX8_paper 76 = .ok (.getfield 92, 3) := by decide +kernel
theorem dX8_paper_79 : decode cX8_paper 79 = .ok (.ireturn, 1) := by decide +kernel
set_option maxRecDepth 20000 in
theorem dX8_circulation_0 : decode cX8_circulation 0 = .ok (.aload_n 0, 1) := by decide +kernel
theorem dX8_circulation_1 : decode cX8_circulation 1 = .ok (.iload_n 1, 1) := by decide +kernel
theorem dX8_circulation_2 : decode cX8_circulation 2 = .ok (.invokevirtual 93, 3) := by decide +kernel
theorem dX8_circulation_5 : decode cX8_circulation 5 = .ok (.astore_n 3, 1) := by decide +kernel
theorem dX8_circulation_6 : decode cX8_circulation 6 = .ok (.aload_n 3, 1) := by decide +kernel
theorem dX8_circulation_7 : decode cX8_circulation 7 = .ok (.ifnull 10, 3) := by decide +kernel
theorem dX8_circulation_10 : decode cX8_circulation 10 = .ok (.iload_n 2, 1) := by decide +kernel
theorem dX8_circulation_11 : decode cX8_circulation 11 = .ok (.invokestatic 83, 3) := by decide +kernel
theorem dX8_circulation_14 : decode cX8_circulation 14 = .ok (.ifCond .ne 5, 3) := by decide +kernel
theorem dX8_circulation_17 : decode cX8_circulation 17 = .ok (.iconst 0, 1) := by decide +kernel
theorem dX8_circulation_18 : decode cX8_circulation 18 = .ok (.ireturn, 1) := by decide +kernel
theorem dX8_circulation_19 : decode cX8_circulation 19 = .ok (.aload_n 3, 1) := by decide +kernel
theorem dX8_circulation_20 : decode cX8_circulation 20 = .ok (.aload_n 0, 1) := by decide +kernel
theorem dX8_circulation_21 : decode cX8_circulation 21 = .ok (.invokevirtual 97, 3) := by decide +kernel
theorem dX8_circulation_24 : decode cX8_circulation 24 = .ok (.iload_n 2, 1) := by decide +kernel
theorem dX8_circulation_25 : decode cX8_circulation 25 = .ok (.invokevirtual 100, 3) := by decide +kernel
theorem dX8_circulation_28 : decode cX8_circulation 28 = .ok (.iconst 1, 1) := by decide +kernel
theorem dX8_circulation_29 : decode cX8_circulation 29 = .ok (.ireturn, 1) := by decide +kernel
set_option maxRecDepth 20000 in
theorem dX8_right_0 : decode cX8_right 0 = .ok (.aload_n 0, 1) := by decide +kernel
theorem dX8_right_1 : decode cX8_right 1 = .ok (.iload_n 1, 1) := by decide +kernel
theorem dX8_right_2 : decode cX8_right 2 = .ok (.invokevirtual 93, 3) := by decide +kernel
theorem dX8_right_5 : decode cX8_right 5 = .ok (.astore 4, 2) := by decide +kernel
theorem dX8_right_7 : decode cX8_right 7 = .ok (.aload 4, 2) := by decide +kernel
theorem dX8_right_9 : decode cX8_right 9 = .ok (.ifnull 22, 3) := by decide +kernel
theorem dX8_right_12 : decode cX8_right 12 = .ok (.iload_n 2, 1) := by decide +kernel
theorem dX8_right_13 : decode cX8_right 13 = .ok (.ifCond .lt 18, 3) := by decide +kernel
theorem dX8_right_16 : decode cX8_right 16 = .ok (.iload_n 2, 1) := by decide +kernel
theorem dX8_right_17 : decode cX8_right 17 = .ok (.aload_n 0, 1) := by decide +kernel
theorem dX8_right_18 : decode cX8_right 18 = .ok (.invokevirtual 97, 3) := by decide +kernel
theorem dX8_right_21 : decode cX8_right 21 = .ok (.if_icmp .ge 10, 3) := by decide +kernel
theorem dX8_right_24 : decode cX8_right 24 = .ok (.iload_n 3, 1) := by decide +kernel
theorem dX8_right_25 : decode cX8_right 25 = .ok (.invokestatic 83, 3) := by decide +kernel
theorem dX8_right_28 : decode cX8_right 28 = .ok (.ifCond .ne 11, 3) := by decide +kernel
theorem dX8_right_31 : decode cX8_right 31 = .ok (.new 104, 3) := by decide +kernel
theorem dX8_right_34 : decode cX8_right 34 = .ok (.dup, 1) := by decide +kernel
theorem dX8_right_35 : decode cX8_right 35 = .ok (.invokespecial 106, 3) := by decide +kernel
theorem dX8_right_38 : decode cX8_right 38 = .ok (.athrow, 1) := by decide +kernel
theorem dX8_right_39 : decode cX8_right 39 = .ok (.aload 4, 2) := by decide +kernel
theorem dX8_right_41 : decode cX8_right 41 = .ok (.iload_n 2, 1) := by decide +kernel
theorem dX8_right_42 : decode cX8_right 42 = .ok (.invokevirtual 107, 3) := by decide +kernel
theorem dX8_right_45 : decode cX8_right 45 = .ok (.istore 5, 2) := by decide +kernel
theorem dX8_right_47 : decode cX8_right 47 = .ok (.aload 4, 2) := by decide +kernel
theorem dX8_right_49 : decode cX8_right 49 = .ok (.iload_n 2, 1) := by decide +kernel
theorem dX8_right_50 : decode cX8_right 50 = .ok (.iload_n 3, 1) := by decide +kernel
theorem dX8_right_51 : decode cX8_right 51 = .ok (.invokevirtual 111, 3) := by decide +kernel
theorem dX8_right_54 : decode cX8_right 54 = .ok (.iconst 0, 1) := by decide +kernel
theorem dX8_right_55 : decode cX8_right 55 = .ok (.istore 6, 2) := by decide +kernel
theorem dX8_right_57 : decode cX8_right 57 = .ok (.iconst 0, 1) := by decide +kernel
theorem dX8_right_58 : decode cX8_right 58 = .ok (.istore 7, 2) := by decide +kernel
theorem dX8_right_60 : decode cX8_right 60 = .ok (.iload 7, 2) := by decide +kernel
theorem dX8_right_62 : decode cX8_right 62 = .ok (.aload_n 0, 1) := by decide +kernel
theorem dX8_right_63 : decode cX8_right 63 = .ok (.getfield 19, 3) := by decide +kernel
theorem dX8_right_66 : decode cX8_right 66 = .ok (.invokevirtual 67, 3) := by decide +kernel
theorem dX8_right_69 : decode cX8_right 69 = .ok (.if_icmp .ge 67, 3) := by decide +kernel
theorem dX8_right_72 : decode cX8_right 72 = .ok (.aload_n 0, 1) := by decide +kernel
theorem dX8_right_73 : decode cX8_right 73 = .ok (.getfield 19, 3) := by decide +kernel
theorem dX8_right_76 : decode cX8_right 76 = .ok (.iload 7, 2) := by decide +kernel
theorem dX8_right_78 : decode cX8_right 78 = .ok (.invokevirtual 114, 3) := by decide +kernel
theorem dX8_right_81 : decode cX8_right 81 = .ok (.checkcast 118, 3) := by decide +kernel
theorem dX8_right_84 : decode cX8_right 84 = .ok (.astore 8, 2) := by decide +kernel
theorem dX8_right_86 : decode cX8_right 86 = .ok (.aload 8, 2) := by decide +kernel
theorem dX8_right_88 : decode cX8_right 88 = .ok (.getfield 120, 3) := by decide +kernel
theorem dX8_right_91 : decode cX8_right 91 = .ok (.aload 4, 2) := by decide +kernel
theorem dX8_right_93 : decode cX8_right 93 = .ok (.if_acmp .ne 37, 3) := by decide +kernel
theorem dX8_right_96 : decode cX8_right 96 = .ok (.aload_n 0, 1) := by decide +kernel
theorem dX8_right_97 : decode cX8_right 97 = .ok (.aload 8, 2) := by decide +kernel
theorem dX8_right_99 : decode cX8_right 99 = .ok (.iload_n 2, 1) := by decide +kernel
theorem dX8_right_100 : decode cX8_right 100 = .ok (.iload_n 3, 1) := by decide +kernel
theorem dX8_right_101 : decode cX8_right 101 = .ok (.invokevirtual 124, 3) := by decide +kernel
theorem dX8_right_104 : decode cX8_right 104 = .ok (.aload_n 0, 1) := by decide +kernel
theorem dX8_right_105 : decode cX8_right 105 = .ok (.aload 8, 2) := by decide +kernel
theorem dX8_right_107 : decode cX8_right 107 = .ok (.iload_n 2, 1) := by decide +kernel
theorem dX8_right_108 : decode cX8_right 108 = .ok (.iload 5, 2) := by decide +kernel
theorem dX8_right_110 : decode cX8_right 110 = .ok (.invokevirtual 124, 3) := by decide +kernel
theorem dX8_right_113 : decode cX8_right 113 = .ok (.isub, 1) := by decide +kernel
theorem dX8_right_114 : decode cX8_right 114 = .ok (.istore 9, 2) := by decide +kernel
theorem dX8_right_116 : decode cX8_right 116 = .ok (.aload 8, 2) := by decide +kernel
theorem dX8_right_118 : decode cX8_right 118 = .ok (.iload 9, 2) := by decide +kernel
theorem dX8_right_120 : decode cX8_right 120 = .ok (.invokevirtual 128, 3) := by decide +kernel
theorem dX8_right_123 : decode cX8_right 123 = .ok (.iload 6, 2) := by decide +kernel
theorem dX8_right_125 : decode cX8_right 125 = .ok (.iload 9, 2) := by decide +kernel
theorem dX8_right_127 : decode cX8_right 127 = .ok (.iadd, 1) := by decide +kernel
theorem dX8_right_128 : decode cX8_right 128 = .ok (.istore 6, 2) := by decide +kernel
theorem dX8_right_130 : decode cX8_right 130 = .ok (.iinc 7 1, 3) := by decide +kernel
theorem dX8_right_133 : decode cX8_right 133 = .ok (.goto (-73), 3) := by decide +kernel
theorem dX8_right_136 : decode cX8_right 136 = .ok (.iload 6, 2) := by decide +kernel
theorem dX8_right_138 : decode cX8_right 138 = .ok (.ireturn, 1) := by decide +kernel
set_option maxRecDepth 20000 in
theorem dX8_sign_0 : decode cX8_sign 0 = .ok (.aload_n 0, 1) := by decide +kernel
theorem dX8_sign_1 : decode cX8_sign 1 = .ok (.iload_n 1, 1) := by decide +kernel
theorem dX8_sign_2 : decode cX8_sign 2 = .ok (.invokevirtual 93, 3) := by decide +kernel
theorem dX8_sign_5 : decode cX8_sign 5 = .ok (.astore_n 3, 1) := by decide +kernel
theorem dX8_sign_6 : decode cX8_sign 6 = .ok (.aload_n 0, 1) := by decide +kernel
theorem dX8_sign_7 : decode cX8_sign 7 = .ok (.iload_n 2, 1) := by decide +kernel
theorem dX8_sign_8 : decode cX8_sign 8 = .ok (.invokevirtual 132, 3) := by decide +kernel
theorem dX8_sign_11 : decode cX8_sign 11 = .ok (.astore 4, 2) := by decide +kernel
theorem dX8_sign_13 : decode cX8_sign 13 = .ok (.aload_n 3, 1) := by decide +kernel
theorem dX8_sign_14 : decode cX8_sign 14 = .ok (.ifnull 20, 3) := by decide +kernel
theorem dX8_sign_17 : decode cX8_sign 17 = .ok (.aload 4, 2) := by decide +kernel
theorem dX8_sign_19 : decode cX8_sign 19 = .ok (.ifnull 15, 3) := by decide +kernel
theorem dX8_sign_22 : decode cX8_sign 22 = .ok (.aload_n 0, 1) := by decide +kernel
theorem dX8_sign_23 : decode cX8_sign 23 = .ok (.getfield 19, 3) := by decide +kernel
theorem dX8_sign_26 : decode cX8_sign 26 = .ok (.invokevirtual 67, 3) := by decide +kernel
theorem dX8_sign_29 : decode cX8_sign 29 = .ok (.bipush 60, 2) := by decide +kernel
theorem dX8_sign_31 : decode cX8_sign 31 = .ok (.if_icmp .lt 5, 3) := by decide +kernel
theorem dX8_sign_34 : decode cX8_sign 34 = .ok (.iconst 1, 1) := by decide +kernel
theorem dX8_sign_35 : decode cX8_sign 35 = .ok (.ireturn, 1) := by decide +kernel
theorem dX8_sign_36 : decode cX8_sign 36 = .ok (.aload_n 0, 1) := by decide +kernel
theorem dX8_sign_37 : decode cX8_sign 37 = .ok (.aload_n 3, 1) := by decide +kernel
theorem dX8_sign_38 : decode cX8_sign 38 = .ok (.aload 4, 2) := by decide +kernel
theorem dX8_sign_40 : decode cX8_sign 40 = .ok (.invokevirtual 136, 3) := by decide +kernel
theorem dX8_sign_43 : decode cX8_sign 43 = .ok (.ifCond .eq 5, 3) := by decide +kernel
theorem dX8_sign_46 : decode cX8_sign 46 = .ok (.iconst 2, 1) := by decide +kernel
theorem dX8_sign_47 : decode cX8_sign 47 = .ok (.ireturn, 1) := by decide +kernel
theorem dX8_sign_48 : decode cX8_sign 48 = .ok (.aload_n 0, 1) := by decide +kernel
theorem dX8_sign_49 : decode cX8_sign 49 = .ok (.aload_n 3, 1) := by decide +kernel
theorem dX8_sign_50 : decode cX8_sign 50 = .ok (.aload 4, 2) := by decide +kernel
theorem dX8_sign_52 : decode cX8_sign 52 = .ok (.invokevirtual 140, 3) := by decide +kernel
theorem dX8_sign_55 : decode cX8_sign 55 = .ok (.ifCond .eq 5, 3) := by decide +kernel
theorem dX8_sign_58 : decode cX8_sign 58 = .ok (.iconst 3, 1) := by decide +kernel
theorem dX8_sign_59 : decode cX8_sign 59 = .ok (.ireturn, 1) := by decide +kernel
theorem dX8_sign_60 : decode cX8_sign 60 = .ok (.aload 4, 2) := by decide +kernel
theorem dX8_sign_62 : decode cX8_sign 62 = .ok (.getfield 143, 3) := by decide +kernel
theorem dX8_sign_65 : decode cX8_sign 65 = .ok (.ifCond .eq 5, 3) := by decide +kernel
theorem dX8_sign_68 : decode cX8_sign 68 = .ok (.iconst 4, 1) := by decide +kernel
theorem dX8_sign_69 : decode cX8_sign 69 = .ok (.ireturn, 1) := by decide +kernel
theorem dX8_sign_70 : decode cX8_sign 70 = .ok (.aload_n 0, 1) := by decide +kernel
theorem dX8_sign_71 : decode cX8_sign 71 = .ok (.getfield 19, 3) := by decide +kernel
theorem dX8_sign_74 : decode cX8_sign 74 = .ok (.invokevirtual 67, 3) := by decide +kernel
theorem dX8_sign_77 : decode cX8_sign 77 = .ok (.istore 5, 2) := by decide +kernel
theorem dX8_sign_79 : decode cX8_sign 79 = .ok (.aload_n 0, 1) := by decide +kernel
theorem dX8_sign_80 : decode cX8_sign 80 = .ok (.getfield 19, 3) := by decide +kernel
theorem dX8_sign_83 : decode cX8_sign 83 = .ok (.new 118, 3) := by decide +kernel
theorem dX8_sign_86 : decode cX8_sign 86 = .ok (.dup, 1) := by decide +kernel
theorem dX8_sign_87 : decode cX8_sign 87 = .ok (.aload_n 3, 1) := by decide +kernel
theorem dX8_sign_88 : decode cX8_sign 88 = .ok (.aload 4, 2) := by decide +kernel
theorem dX8_sign_90 : decode cX8_sign 90 = .ok (.aload_n 0, 1) := by decide +kernel
theorem dX8_sign_91 : decode cX8_sign 91 = .ok (.getfield 60, 3) := by decide +kernel
theorem dX8_sign_94 : decode cX8_sign 94 = .ok (.iconst 1, 1) := by decide +kernel
theorem dX8_sign_95 : decode cX8_sign 95 = .ok (.iadd, 1) := by decide +kernel
theorem dX8_sign_96 : decode cX8_sign 96 = .ok (.invokespecial 147, 3) := by decide +kernel
theorem dX8_sign_99 : decode cX8_sign 99 = .ok (.invokevirtual 76, 3) := by decide +kernel
theorem dX8_sign_102 : decode cX8_sign 102 = .ok (.pop, 1) := by decide +kernel
theorem dX8_sign_103 : decode cX8_sign 103 = .ok (.bipush 100, 2) := by decide +kernel
theorem dX8_sign_105 : decode cX8_sign 105 = .ok (.iload 5, 2) := by decide +kernel
theorem dX8_sign_107 : decode cX8_sign 107 = .ok (.iadd, 1) := by decide +kernel
theorem dX8_sign_108 : decode cX8_sign 108 = .ok (.ireturn, 1) := by decide +kernel
set_option maxRecDepth 20000 in
theorem dX8_cancel_0 : decode cX8_cancel 0 = .ok (.aload_n 0, 1) := by decide +kernel
theorem dX8_cancel_1 : decode cX8_cancel 1 = .ok (.iload_n 1, 1) := by decide +kernel
theorem dX8_cancel_2 : decode cX8_cancel 2 = .ok (.invokevirtual 150, 3) := by decide +kernel
theorem dX8_cancel_5 : decode cX8_cancel 5 = .ok (.astore_n 2, 1) := by decide +kernel
theorem dX8_cancel_6 : decode cX8_cancel 6 = .ok (.aload_n 2, 1) := by decide +kernel
theorem dX8_cancel_7 : decode cX8_cancel 7 = .ok (.ifnull 11, 3) := by decide +kernel
theorem dX8_cancel_10 : decode cX8_cancel 10 = .ok (.aload_n 2, 1) := by decide +kernel
theorem dX8_cancel_11 : decode cX8_cancel 11 = .ok (.getfield 154, 3) := by decide +kernel
theorem dX8_cancel_14 : decode cX8_cancel 14 = .ok (.iconst (-1), 1) := by decide +kernel
theorem dX8_cancel_15 : decode cX8_cancel 15 = .ok (.if_icmp .eq 5, 3) := by decide +kernel
theorem dX8_cancel_18 : decode cX8_cancel 18 = .ok (.iconst (-1), 1) := by decide +kernel
theorem dX8_cancel_19 : decode cX8_cancel 19 = .ok (.ireturn, 1) := by decide +kernel
theorem dX8_cancel_20 : decode cX8_cancel 20 = .ok (.aload_n 2, 1) := by decide +kernel
theorem dX8_cancel_21 : decode cX8_cancel 21 = .ok (.aload_n 0, 1) := by decide +kernel
theorem dX8_cancel_22 : decode cX8_cancel 22 = .ok (.getfield 60, 3) := by decide +kernel
theorem dX8_cancel_25 : decode cX8_cancel 25 = .ok (.iconst 4, 1) := by decide +kernel
theorem dX8_cancel_26 : decode cX8_cancel 26 = .ok (.iadd, 1) := by decide +kernel
theorem dX8_cancel_27 : decode cX8_cancel 27 = .ok (.putfield 154, 3) := by decide +kernel
theorem dX8_cancel_30 : decode cX8_cancel 30 = .ok (.aload_n 2, 1) := by decide +kernel
theorem dX8_cancel_31 : decode cX8_cancel 31 = .ok (.getfield 154, 3) := by decide +kernel
theorem dX8_cancel_34 : decode cX8_cancel 34 = .ok (.ireturn, 1) := by decide +kernel
set_option maxRecDepth 20000 in
theorem dX8_ill_0 : decode cX8_ill 0 = .ok (.aload_n 0, 1) := by decide +kernel
theorem dX8_ill_1 : decode cX8_ill 1 = .ok (.iload_n 1, 1) := by decide +kernel
theorem dX8_ill_2 : decode cX8_ill 2 = .ok (.invokevirtual 132, 3) := by decide +kernel
theorem dX8_ill_5 : decode cX8_ill 5 = .ok (.astore_n 3, 1) := by decide +kernel
theorem dX8_ill_6 : decode cX8_ill 6 = .ok (.aload_n 3, 1) := by decide +kernel
theorem dX8_ill_7 : decode cX8_ill 7 = .ok (.ifnull 13, 3) := by decide +kernel
theorem dX8_ill_10 : decode cX8_ill 10 = .ok (.iload_n 2, 1) := by decide +kernel
theorem dX8_ill_11 : decode cX8_ill 11 = .ok (.iconst 1, 1) := by decide +kernel
theorem dX8_ill_12 : decode cX8_ill 12 = .ok (.bipush 50, 2) := by decide +kernel
theorem dX8_ill_14 : decode cX8_ill 14 = .ok (.invokestatic 63, 3) := by decide +kernel
theorem dX8_ill_17 : decode cX8_ill 17 = .ok (.ifCond .ne 5, 3) := by decide +kernel
theorem dX8_ill_20 : decode cX8_ill 20 = .ok (.iconst 0, 1) := by decide +kernel
theorem dX8_ill_21 : decode cX8_ill 21 = .ok (.ireturn, 1) := by decide +kernel
theorem dX8_ill_22 : decode cX8_ill 22 = .ok (.aload_n 3, 1) := by decide +kernel
theorem dX8_ill_23 : decode cX8_ill 23 = .ok (.aload_n 0, 1) := by decide +kernel
theorem dX8_ill_24 : decode cX8_ill 24 = .ok (.getfield 60, 3) := by decide +kernel
theorem dX8_ill_27 : decode cX8_ill 27 = .ok (.iload_n 2, 1) := by decide +kernel
theorem dX8_ill_28 : decode cX8_ill 28 = .ok (.iadd, 1) := by decide +kernel
theorem dX8_ill_29 : decode cX8_ill 29 = .ok (.putfield 157, 3) := by decide +kernel
theorem dX8_ill_32 : decode cX8_ill 32 = .ok (.iconst 1, 1) := by decide +kernel
theorem dX8_ill_33 : decode cX8_ill 33 = .ok (.ireturn, 1) := by decide +kernel
set_option maxRecDepth 20000 in
theorem dX8_stop_0 : decode cX8_stop 0 = .ok (.aload_n 0, 1) := by decide +kernel
theorem dX8_stop_1 : decode cX8_stop 1 = .ok (.iload_n 1, 1) := by decide +kernel
theorem dX8_stop_2 : decode cX8_stop 2 = .ok (.invokevirtual 132, 3) := by decide +kernel
theorem dX8_stop_5 : decode cX8_stop 5 = .ok (.astore_n 3, 1) := by decide +kernel
theorem dX8_stop_6 : decode cX8_stop 6 = .ok (.aload_n 3, 1) := by decide +kernel
theorem dX8_stop_7 : decode cX8_stop 7 = .ok (.ifnull 11, 3) := by decide +kernel
theorem dX8_stop_10 : decode cX8_stop 10 = .ok (.aload_n 3, 1) := by decide +kernel
theorem dX8_stop_11 : decode cX8_stop 11 = .ok (.getfield 143, 3) := by decide +kernel
theorem dX8_stop_14 : decode cX8_stop 14 = .ok (.iload_n 2, 1) := by decide +kernel
theorem dX8_stop_15 : decode cX8_stop 15 = .ok (.if_icmp .ne 5, 3) := by decide +kernel
theorem dX8_stop_18 : decode cX8_stop 18 = .ok (.iconst 0, 1) := by decide +kernel
theorem dX8_stop_19 : decode cX8_stop 19 = .ok (.ireturn, 1) := by decide +kernel
theorem dX8_stop_20 : decode cX8_stop 20 = .ok (.aload_n 3, 1) := by decide +kernel
theorem dX8_stop_21 : decode cX8_stop 21 = .ok (.iload_n 2, 1) := by decide +kernel
theorem dX8_stop_22 : decode cX8_stop 22 = .ok (.putfield 143, 3) := by decide +kernel
theorem dX8_stop_25 : decode cX8_stop 25 = .ok (.iconst 1, 1) := by decide +kernel
theorem dX8_stop_26 : decode cX8_stop 26 = .ok (.ireturn, 1) := by decide +kernel
set_option maxRecDepth 20000 in
theorem dX8_miss_0 : decode cX8_miss 0 = .ok (.aload_n 0, 1) := by decide +kernel
theorem dX8_miss_1 : decode cX8_miss 1 = .ok (.iload_n 1, 1) := by decide +kernel
theorem dX8_miss_2 : decode cX8_miss 2 = .ok (.invokevirtual 150, 3) := by decide +kernel
theorem dX8_miss_5 : decode cX8_miss 5 = .ok (.astore_n 2, 1) := by decide +kernel
theorem dX8_miss_6 : decode cX8_miss 6 = .ok (.aload_n 2, 1) := by decide +kernel
theorem dX8_miss_7 : decode cX8_miss 7 = .ok (.ifnull 16, 3) := by decide +kernel
theorem dX8_miss_10 : decode cX8_miss 10 = .ok (.aload_n 2, 1) := by decide +kernel
theorem dX8_miss_11 : decode cX8_miss 11 = .ok (.getfield 160, 3) := by decide +kernel
theorem dX8_miss_14 : decode cX8_miss 14 = .ok (.aload_n 0, 1) := by decide +kernel
theorem dX8_miss_15 : decode cX8_miss 15 = .ok (.getfield 60, 3) := by decide +kernel
theorem dX8_miss_18 : decode cX8_miss 18 = .ok (.iconst 1, 1) := by decide +kernel
theorem dX8_miss_19 : decode cX8_miss 19 = .ok (.iadd, 1) := by decide +kernel
theorem dX8_miss_20 : decode cX8_miss 20 = .ok (.if_icmp .ne 5, 3) := by decide +kernel
theorem dX8_miss_23 : decode cX8_miss 23 = .ok (.iconst 0, 1) := by decide +kernel
theorem dX8_miss_24 : decode cX8_miss 24 = .ok (.ireturn, 1) := by decide +kernel
theorem dX8_miss_25 : decode cX8_miss 25 = .ok (.aload_n 2, 1) := by decide +kernel
theorem dX8_miss_26 : decode cX8_miss 26 = .ok (.aload_n 0, 1) := by decide +kernel
theorem dX8_miss_27 : decode cX8_miss 27 = .ok (.getfield 60, 3) := by decide +kernel
theorem dX8_miss_30 : decode cX8_miss 30 = .ok (.iconst 1, 1) := by decide +kernel
theorem dX8_miss_31 : decode cX8_miss 31 = .ok (.iadd, 1) := by decide +kernel
theorem dX8_miss_32 : decode cX8_miss 32 = .ok (.putfield 160, 3) := by decide +kernel
theorem dX8_miss_35 : decode cX8_miss 35 = .ok (.iconst 1, 1) := by decide +kernel
theorem dX8_miss_36 : decode cX8_miss 36 = .ok (.ireturn, 1) := by decide +kernel
set_option maxRecDepth 20000 in
theorem dX8_send_0 : decode cX8_send 0 = .ok (.aload_n 0, 1) := by decide +kernel
theorem dX8_send_1 : decode cX8_send 1 = .ok (.iload_n 1, 1) := by decide +kernel
theorem dX8_send_2 : decode cX8_send 2 = .ok (.invokevirtual 150, 3) := by decide +kernel
theorem dX8_send_5 : decode cX8_send 5 = .ok (.astore_n 2, 1) := by decide +kernel
theorem dX8_send_6 : decode cX8_send 6 = .ok (.aload_n 2, 1) := by decide +kernel
theorem dX8_send_7 : decode cX8_send 7 = .ok (.ifnonnull 7, 3) := by decide +kernel
theorem dX8_send_10 : decode cX8_send 10 = .ok (.iconst (-1), 1) := by decide +kernel
theorem dX8_send_11 : decode cX8_send 11 = .ok (.goto 7, 3) := by decide +kernel
theorem dX8_send_14 : decode cX8_send 14 = .ok (.aload_n 2, 1) := by decide +kernel
theorem dX8_send_15 : decode cX8_send 15 = .ok (.invokevirtual 163, 3) := by decide +kernel
theorem dX8_send_18 : decode cX8_send 18 = .ok (.ireturn, 1) := by decide +kernel
set_option maxRecDepth 20000 in
theorem dX8_weeks_0 : decode cX8_weeks 0 = .ok (.iload_n 1, 1) := by decide +kernel
theorem dX8_weeks_1 : decode cX8_weeks 1 = .ok (.iconst 0, 1) := by decide +kernel
theorem dX8_weeks_2 : decode cX8_weeks 2 = .ok (.bipush 30, 2) := by decide +kernel
theorem dX8_weeks_4 : decode cX8_weeks 4 = .ok (.invokestatic 63, 3) := by decide +kernel
theorem dX8_weeks_7 : decode cX8_weeks 7 = .ok (.ifCond .eq 15, 3) := by decide +kernel
theorem dX8_weeks_10 : decode cX8_weeks 10 = .ok (.aload_n 0, 1) := by decide +kernel
theorem dX8_weeks_11 : decode cX8_weeks 11 = .ok (.getfield 60, 3) := by decide +kernel
theorem dX8_weeks_14 : decode cX8_weeks 14 = .ok (.iload_n 1, 1) := by decide +kernel
theorem dX8_weeks_15 : decode cX8_weeks 15 = .ok (.iadd, 1) := by decide +kernel
theorem dX8_weeks_16 : decode cX8_weeks 16 = .ok (.sipush 200, 3) := by decide +kernel
theorem dX8_weeks_19 : decode cX8_weeks 19 = .ok (.if_icmp .le 5, 3) := by decide +kernel
theorem dX8_weeks_22 : decode cX8_weeks 22 = .ok (.iconst (-1), 1) := by decide +kernel
theorem dX8_weeks_23 : decode cX8_weeks 23 = .ok (.ireturn, 1) := by decide +kernel
theorem dX8_weeks_24 : decode cX8_weeks 24 = .ok (.iconst 0, 1) := by decide +kernel
theorem dX8_weeks_25 : decode cX8_weeks 25 = .ok (.istore_n 2, 1) := by decide +kernel
theorem dX8_weeks_26 : decode cX8_weeks 26 = .ok (.iload_n 2, 1) := by decide +kernel
theorem dX8_weeks_27 : decode cX8_weeks 27 = .ok (.iload_n 1, 1) := by decide +kernel
theorem dX8_weeks_28 : decode cX8_weeks 28 = .ok (.if_icmp .ge 13, 3) := by decide +kernel
theorem dX8_weeks_31 : decode cX8_weeks 31 = .ok (.aload_n 0, 1) := by decide +kernel
theorem dX8_weeks_32 : decode cX8_weeks 32 = .ok (.invokevirtual 166, 3) := by decide +kernel
theorem dX8_weeks_35 : decode cX8_weeks 35 = .ok (.iinc 2 1, 3) := by decide +kernel
theorem dX8_weeks_38 : decode cX8_weeks 38 = .ok (.goto (-12), 3) := by decide +kernel
theorem dX8_weeks_41 : decode cX8_weeks 41 = .ok (.aload_n 0, 1) := by decide +kernel
theorem dX8_weeks_42 : decode cX8_weeks 42 = .ok (.getfield 60, 3) := by decide +kernel
theorem dX8_weeks_45 : decode cX8_weeks 45 = .ok (.ireturn, 1) := by decide +kernel
set_option maxRecDepth 20000 in
theorem dX8_feed_0 : decode cX8_feed 0 = .ok (.aload_n 0, 1) := by decide +kernel
theorem dX8_feed_1 : decode cX8_feed 1 = .ok (.getfield 25, 3) := by decide +kernel
theorem dX8_feed_4 : decode cX8_feed 4 = .ok (.lload_n 1, 1) := by decide +kernel
theorem dX8_feed_5 : decode cX8_feed 5 = .ok (.invokevirtual 169, 3) := by decide +kernel
theorem dX8_feed_8 : decode cX8_feed 8 = .ok (.aload_n 0, 1) := by decide +kernel
theorem dX8_feed_9 : decode cX8_feed 9 = .ok (.getfield 25, 3) := by decide +kernel
theorem dX8_feed_12 : decode cX8_feed 12 = .ok (.lload_n 3, 1) := by decide +kernel
theorem dX8_feed_13 : decode cX8_feed 13 = .ok (.invokevirtual 169, 3) := by decide +kernel
theorem dX8_feed_16 : decode cX8_feed 16 = .ok (.aload_n 0, 1) := by decide +kernel
theorem dX8_feed_17 : decode cX8_feed 17 = .ok (.getfield 25, 3) := by decide +kernel
theorem dX8_feed_20 : decode cX8_feed 20 = .ok (.lload 5, 2) := by decide +kernel
theorem dX8_feed_22 : decode cX8_feed 22 = .ok (.invokevirtual 169, 3) := by decide +kernel
theorem dX8_feed_25 : decode cX8_feed 25 = .ok (.aload_n 0, 1) := by decide +kernel
theorem dX8_feed_26 : decode cX8_feed 26 = .ok (.getfield 25, 3) := by decide +kernel
theorem dX8_feed_29 : decode cX8_feed 29 = .ok (.getfield 173, 3) := by decide +kernel
theorem dX8_feed_32 : decode cX8_feed 32 = .ok (.ireturn, 1) := by decide +kernel
set_option maxRecDepth 20000 in
theorem dX8_text_0 : decode cX8_text 0 = .ok (.aload_n 0, 1) := by decide +kernel
theorem dX8_text_1 : decode cX8_text 1 = .ok (.getfield 56, 3) := by decide +kernel
theorem dX8_text_4 : decode cX8_text 4 = .ok (.bipush 20, 2) := by decide +kernel
theorem dX8_text_6 : decode cX8_text 6 = .ok (.if_icmp .lt 12, 3) := by decide +kernel
theorem dX8_text_9 : decode cX8_text 9 = .ok (.aload_n 0, 1) := by decide +kernel
theorem dX8_text_10 : decode cX8_text 10 = .ok (.getfield 25, 3) := by decide +kernel
theorem dX8_text_13 : decode cX8_text 13 = .ok (.invokevirtual 176, 3) := by decide +kernel
theorem dX8_text_16 : decode cX8_text 16 = .ok (.iconst (-1), 1) := by decide +kernel
theorem dX8_text_17 : decode cX8_text 17 = .ok (.ireturn, 1) := by decide +kernel
theorem dX8_text_18 : decode cX8_text 18 = .ok (.aload_n 0, 1) := by decide +kernel
theorem dX8_text_19 : decode cX8_text 19 = .ok (.getfield 32, 3) := by decide +kernel
theorem dX8_text_22 : decode cX8_text 22 = .ok (.aload_n 0, 1) := by decide +kernel
theorem dX8_text_23 : decode cX8_text 23 = .ok (.getfield 25, 3) := by decide +kernel
theorem dX8_text_26 : decode cX8_text 26 = .ok (.invokevirtual 179, 3) := by decide +kernel
theorem dX8_text_29 : decode cX8_text 29 = .ok (.istore_n 1, 1) := by decide +kernel
theorem dX8_text_30 : decode cX8_text 30 = .ok (.aload_n 0, 1) := by decide +kernel
theorem dX8_text_31 : decode cX8_text 31 = .ok (.getfield 25, 3) := by decide +kernel
theorem dX8_text_34 : decode cX8_text 34 = .ok (.invokevirtual 176, 3) := by decide +kernel
theorem dX8_text_37 : decode cX8_text 37 = .ok (.iload_n 1, 1) := by decide +kernel
theorem dX8_text_38 : decode cX8_text 38 = .ok (.ifCond .ne 24, 3) := by decide +kernel
theorem dX8_text_41 : decode cX8_text 41 = .ok (.aload_n 0, 1) := by decide +kernel
theorem dX8_text_42 : decode cX8_text 42 = .ok (.aload_n 0, 1) := by decide +kernel
theorem dX8_text_43 : decode cX8_text 43 = .ok (.getfield 32, 3) := by decide +kernel
theorem dX8_text_46 : decode cX8_text 46 = .ok (.invokevirtual 183, 3) := by decide +kernel
theorem dX8_text_49 : decode cX8_text 49 = .ok (.putfield 52, 3) := by decide +kernel
theorem dX8_text_52 : decode cX8_text 52 = .ok (.aload_n 0, 1) := by decide +kernel
theorem dX8_text_53 : decode cX8_text 53 = .ok (.dup, 1) := by decide +kernel
theorem dX8_text_54 : decode cX8_text 54 = .ok (.getfield 56, 3) := by decide +kernel
theorem dX8_text_57 : decode cX8_text 57 = .ok (.iconst 1, 1) := by decide +kernel
theorem dX8_text_58 : decode cX8_text 58 = .ok (.iadd, 1) := by decide +kernel
theorem dX8_text_59 : decode cX8_text 59 = .ok (.putfield 56, 3) := by decide +kernel
theorem dX8_text_62 : decode cX8_text 62 = .ok (.iload_n 1, 1) := by decide +kernel
theorem dX8_text_63 : decode cX8_text 63 = .ok (.ireturn, 1) := by decide +kernel
set_option maxRecDepth 20000 in
theorem dX8_look_0 : decode cX8_look 0 = .ok (.aload_n 0, 1) := by decide +kernel
theorem dX8_look_1 : decode cX8_look 1 = .ok (.iload_n 1, 1) := by decide +kernel
theorem dX8_look_2 : decode cX8_look 2 = .ok (.invokevirtual 150, 3) := by decide +kernel
theorem dX8_look_5 : decode cX8_look 5 = .ok (.astore_n 3, 1) := by decide +kernel
theorem dX8_look_6 : decode cX8_look 6 = .ok (.aload_n 3, 1) := by decide +kernel
theorem dX8_look_7 : decode cX8_look 7 = .ok (.ifnonnull 11, 3) := by decide +kernel
theorem dX8_look_10 : decode cX8_look 10 = .ok (.new 104, 3) := by decide +kernel
theorem dX8_look_13 : decode cX8_look 13 = .ok (.dup, 1) := by decide +kernel
theorem dX8_look_14 : decode cX8_look 14 = .ok (.invokespecial 106, 3) := by decide +kernel
theorem dX8_look_17 : decode cX8_look 17 = .ok (.athrow, 1) := by decide +kernel
theorem dX8_look_18 : decode cX8_look 18 = .ok (.iload_n 2, 1) := by decide +kernel
theorem dX8_look_19 : decode cX8_look 19 = .ok (.tableswitch 123 0 9 #[53, 61, 69, 74, 79, 98, 103, 108, 113, 118], 53) := by decide +kernel
theorem dX8_look_72 : decode cX8_look 72 = .ok (.aload_n 3, 1) := by decide +kernel
theorem dX8_look_73 : decode cX8_look 73 = .ok (.getfield 120, 3) := by decide +kernel
theorem dX8_look_76 : decode cX8_look 76 = .ok (.getfield 92, 3) := by decide +kernel
theorem dX8_look_79 : decode cX8_look 79 = .ok (.ireturn, 1) := by decide +kernel
theorem dX8_look_80 : decode cX8_look 80 = .ok (.aload_n 3, 1) := by decide +kernel
theorem dX8_look_81 : decode cX8_look 81 = .ok (.getfield 187, 3) := by decide +kernel
theorem dX8_look_84 : decode cX8_look 84 = .ok (.getfield 80, 3) := by decide +kernel
theorem dX8_look_87 : decode cX8_look 87 = .ok (.ireturn, 1) := by decide +kernel
theorem dX8_look_88 : decode cX8_look 88 = .ok (.aload_n 3, 1) := by decide +kernel
theorem dX8_look_89 : decode cX8_look 89 = .ok (.getfield 191, 3) := by decide +kernel
theorem dX8_look_92 : decode cX8_look 92 = .ok (.ireturn, 1) := by decide +kernel
theorem dX8_look_93 : decode cX8_look 93 = .ok (.aload_n 3, 1) := by decide +kernel
theorem dX8_look_94 : decode cX8_look 94 = .ok (.getfield 154, 3) := by decide +kernel
theorem dX8_look_97 : decode cX8_look 97 = .ok (.ireturn, 1) := by decide +kernel
theorem dX8_look_98 : decode cX8_look 98 = .ok (.aload_n 3, 1) := by decide +kernel
theorem dX8_look_99 : decode cX8_look 99 = .ok (.aload_n 0, 1) := by decide +kernel
theorem dX8_look_100 : decode cX8_look 100 = .ok (.getfield 60, 3) := by decide +kernel
theorem dX8_look_103 : decode cX8_look 103 = .ok (.iconst 1, 1) := by decide +kernel
theorem dX8_look_104 : decode cX8_look 104 = .ok (.iadd, 1) := by decide +kernel
theorem dX8_look_105 : decode cX8_look 105 = .ok (.invokevirtual 194, 3) := by decide +kernel
theorem dX8_look_108 : decode cX8_look 108 = .ok (.ifCond .eq 7, 3) := by decide +kernel
theorem dX8_look_111 : decode cX8_look 111 = .ok (.iconst 1, 1) := by decide +kernel
theorem dX8_look_112 : decode cX8_look 112 = .ok (.goto 4, 3) := by decide +kernel
theorem dX8_look_115 : decode cX8_look 115 = .ok (.iconst 0, 1) := by decide +kernel
theorem dX8_look_116 : decode cX8_look 116 = .ok (.ireturn, 1) := by decide +kernel
theorem dX8_look_117 : decode cX8_look 117 = .ok (.aload_n 3, 1) := by decide +kernel
theorem dX8_look_118 : decode cX8_look 118 = .ok (.getfield 197, 3) := by decide +kernel
theorem dX8_look_121 : decode cX8_look 121 = .ok (.ireturn, 1) := by decide +kernel
theorem dX8_look_122 : decode cX8_look 122 = .ok (.aload_n 3, 1) := by decide +kernel
theorem dX8_look_123 : decode cX8_look 123 = .ok (.invokevirtual 200, 3) := by decide +kernel
theorem dX8_look_126 : decode cX8_look 126 = .ok (.ireturn, 1) := by decide +kernel
theorem dX8_look_127 : decode cX8_look 127 = .ok (.aload_n 3, 1) := by decide +kernel
theorem dX8_look_128 : decode cX8_look 128 = .ok (.invokevirtual 203, 3) := by decide +kernel
theorem dX8_look_131 : decode cX8_look 131 = .ok (.ireturn, 1) := by decide +kernel
theorem dX8_look_132 : decode cX8_look 132 = .ok (.aload_n 3, 1) := by decide +kernel
theorem dX8_look_133 : decode cX8_look 133 = .ok (.invokevirtual 206, 3) := by decide +kernel
theorem dX8_look_136 : decode cX8_look 136 = .ok (.ireturn, 1) := by decide +kernel
theorem dX8_look_137 : decode cX8_look 137 = .ok (.aload_n 3, 1) := by decide +kernel
theorem dX8_look_138 : decode cX8_look 138 = .ok (.getfield 209, 3) := by decide +kernel
theorem dX8_look_141 : decode cX8_look 141 = .ok (.ireturn, 1) := by decide +kernel
theorem dX8_look_142 : decode cX8_look 142 = .ok (.new 104, 3) := by decide +kernel
theorem dX8_look_145 : decode cX8_look 145 = .ok (.dup, 1) := by decide +kernel
theorem dX8_look_146 : decode cX8_look 146 = .ok (.invokespecial 106, 3) := by decide +kernel
theorem dX8_look_149 : decode cX8_look 149 = .ok (.athrow, 1) := by decide +kernel
set_option maxRecDepth 20000 in
theorem dX8_panel_0 : decode cX8_panel 0 = .ok (.aload_n 0, 1) := by decide +kernel
theorem dX8_panel_1 : decode cX8_panel 1 = .ok (.iload_n 1, 1) := by decide +kernel
theorem dX8_panel_2 : decode cX8_panel 2 = .ok (.invokevirtual 132, 3) := by decide +kernel
theorem dX8_panel_5 : decode cX8_panel 5 = .ok (.astore_n 2, 1) := by decide +kernel
theorem dX8_panel_6 : decode cX8_panel 6 = .ok (.aload_n 2, 1) := by decide +kernel
theorem dX8_panel_7 : decode cX8_panel 7 = .ok (.ifnonnull 7, 3) := by decide +kernel
theorem dX8_panel_10 : decode cX8_panel 10 = .ok (.iconst (-1), 1) := by decide +kernel
theorem dX8_panel_11 : decode cX8_panel 11 = .ok (.goto 7, 3) := by decide +kernel
theorem dX8_panel_14 : decode cX8_panel 14 = .ok (.aload_n 2, 1) := by decide +kernel
theorem dX8_panel_15 : decode cX8_panel 15 = .ok (.getfield 212, 3) := by decide +kernel
theorem dX8_panel_18 : decode cX8_panel 18 = .ok (.ireturn, 1) := by decide +kernel
set_option maxRecDepth 20000 in
theorem dX8_income_0 : decode cX8_income 0 = .ok (.aload_n 0, 1) := by decide +kernel
theorem dX8_income_1 : decode cX8_income 1 = .ok (.iload_n 1, 1) := by decide +kernel
theorem dX8_income_2 : decode cX8_income 2 = .ok (.invokevirtual 132, 3) := by decide +kernel
theorem dX8_income_5 : decode cX8_income 5 = .ok (.astore_n 2, 1) := by decide +kernel
theorem dX8_income_6 : decode cX8_income 6 = .ok (.aload_n 2, 1) := by decide +kernel
theorem dX8_income_7 : decode cX8_income 7 = .ok (.ifnonnull 11, 3) := by decide +kernel
theorem dX8_income_10 : decode cX8_income 10 = .ok (.new 104, 3) := by decide +kernel
theorem dX8_income_13 : decode cX8_income 13 = .ok (.dup, 1) := by decide +kernel
theorem dX8_income_14 : decode cX8_income 14 = .ok (.invokespecial 106, 3) := by decide +kernel
theorem dX8_income_17 : decode cX8_income 17 = .ok (.athrow, 1) := by decide +kernel
theorem dX8_income_18 : decode cX8_income 18 = .ok (.aload_n 2, 1) := by decide +kernel
theorem dX8_income_19 : decode cX8_income 19 = .ok (.getfield 215, 3) := by decide +kernel
theorem dX8_income_22 : decode cX8_income 22 = .ok (.ireturn, 1) := by decide +kernel
set_option maxRecDepth 20000 in
theorem dX8_share_0 : decode cX8_share 0 = .ok (.aload_n 0, 1) := by decide +kernel
theorem dX8_share_1 : decode cX8_share 1 = .ok (.iload_n 1, 1) := by decide +kernel
theorem dX8_share_2 : decode cX8_share 2 = .ok (.invokevirtual 132, 3) := by decide +kernel
theorem dX8_share_5 : decode cX8_share 5 = .ok (.astore_n 3, 1) := by decide +kernel
theorem dX8_share_6 : decode cX8_share 6 = .ok (.aload_n 3, 1) := by decide +kernel
theorem dX8_share_7 : decode cX8_share 7 = .ok (.ifnull 12, 3) := by decide +kernel
theorem dX8_share_10 : decode cX8_share 10 = .ok (.iload_n 2, 1) := by decide +kernel
theorem dX8_share_11 : decode cX8_share 11 = .ok (.iconst 0, 1) := by decide +kernel
theorem dX8_share_12 : decode cX8_share 12 = .ok (.iconst 2, 1) := by decide +kernel
theorem dX8_share_13 : decode cX8_share 13 = .ok (.invokestatic 63, 3) := by decide +kernel
theorem dX8_share_16 : decode cX8_share 16 = .ok (.ifCond .ne 5, 3) := by decide +kernel
theorem dX8_share_19 : decode cX8_share 19 = .ok (.iconst (-1), 1) := by decide +kernel
theorem dX8_share_20 : decode cX8_share 20 = .ok (.ireturn, 1) := by decide +kernel
theorem dX8_share_21 : decode cX8_share 21 = .ok (.aload_n 3, 1) := by decide +kernel
theorem dX8_share_22 : decode cX8_share 22 = .ok (.iload_n 2, 1) := by decide +kernel
theorem dX8_share_23 : decode cX8_share 23 = .ok (.invokevirtual 218, 3) := by decide +kernel
theorem dX8_share_26 : decode cX8_share 26 = .ok (.ireturn, 1) := by decide +kernel
set_option maxRecDepth 20000 in
theorem dX8_sells_0 : decode cX8_sells 0 = .ok (.aload_n 0, 1) := by decide +kernel
theorem dX8_sells_1 : decode cX8_sells 1 = .ok (.iload_n 1, 1) := by decide +kernel
theorem dX8_sells_2 : decode cX8_sells 2 = .ok (.invokevirtual 93, 3) := by decide +kernel
theorem dX8_sells_5 : decode cX8_sells 5 = .ok (.astore_n 3, 1) := by decide +kernel
theorem dX8_sells_6 : decode cX8_sells 6 = .ok (.aload_n 3, 1) := by decide +kernel
theorem dX8_sells_7 : decode cX8_sells 7 = .ok (.ifnull 15, 3) := by decide +kernel
theorem dX8_sells_10 : decode cX8_sells 10 = .ok (.iload_n 2, 1) := by decide +kernel
theorem dX8_sells_11 : decode cX8_sells 11 = .ok (.iconst 0, 1) := by decide +kernel
theorem dX8_sells_12 : decode cX8_sells 12 = .ok (.aload_n 0, 1) := by decide +kernel
theorem dX8_sells_13 : decode cX8_sells 13 = .ok (.invokevirtual 97, 3) := by decide +kernel
theorem dX8_sells_16 : decode cX8_sells 16 = .ok (.invokestatic 63, 3) := by decide +kernel
theorem dX8_sells_19 : decode cX8_sells 19 = .ok (.ifCond .ne 5, 3) := by decide +kernel
theorem dX8_sells_22 : decode cX8_sells 22 = .ok (.iconst (-1), 1) := by decide +kernel
theorem dX8_sells_23 : decode cX8_sells 23 = .ok (.ireturn, 1) := by decide +kernel
theorem dX8_sells_24 : decode cX8_sells 24 = .ok (.aload_n 3, 1) := by decide +kernel
theorem dX8_sells_25 : decode cX8_sells 25 = .ok (.iload_n 2, 1) := by decide +kernel
theorem dX8_sells_26 : decode cX8_sells 26 = .ok (.invokevirtual 107, 3) := by decide +kernel
theorem dX8_sells_29 : decode cX8_sells 29 = .ok (.ireturn, 1) := by decide +kernel
set_option maxRecDepth 20000 in
theorem dX8_count_0 : decode cX8_count 0 = .ok (.iload_n 1, 1) := by decide +kernel
theorem dX8_count_1 : decode cX8_count 1 = .ok (.tableswitch 102 0 7 #[47, 55, 63, 71, 76, 81, 89, 97], 47) := by decide +kernel
theorem dX8_count_48 : decode cX8_count 48 = .ok (.aload_n 0, 1) := by decide +kernel
theorem dX8_count_49 : decode cX8_count 49 = .ok (.getfield 12, 3) := by decide +kernel
theorem dX8_count_52 : decode cX8_count 52 = .ok (.invokevirtual 67, 3) := by decide +kernel
theorem dX8_count_55 : decode cX8_count 55 = .ok (.ireturn, 1) := by decide +kernel
theorem dX8_count_56 : decode cX8_count 56 = .ok (.aload_n 0, 1) := by decide +kernel
theorem dX8_count_57 : decode cX8_count 57 = .ok (.getfield 16, 3) := by decide +kernel
theorem dX8_count_60 : decode cX8_count 60 = .ok (.invokevirtual 67, 3) := by decide +kernel
theorem dX8_count_63 : decode cX8_count 63 = .ok (.ireturn, 1) := by decide +kernel
theorem dX8_count_64 : decode cX8_count 64 = .ok (.aload_n 0, 1) := by decide +kernel
theorem dX8_count_65 : decode cX8_count 65 = .ok (.getfield 19, 3) := by decide +kernel
theorem dX8_count_68 : decode cX8_count 68 = .ok (.invokevirtual 67, 3) := by decide +kernel
theorem dX8_count_71 : decode cX8_count 71 = .ok (.ireturn, 1) := by decide +kernel
theorem dX8_count_72 : decode cX8_count 72 = .ok (.aload_n 0, 1) := by decide +kernel
theorem dX8_count_73 : decode cX8_count 73 = .ok (.getfield 60, 3) := by decide +kernel
theorem dX8_count_76 : decode cX8_count 76 = .ok (.ireturn, 1) := by decide +kernel
theorem dX8_count_77 : decode cX8_count 77 = .ok (.aload_n 0, 1) := by decide +kernel
theorem dX8_count_78 : decode cX8_count 78 = .ok (.invokevirtual 221, 3) := by decide +kernel
theorem dX8_count_81 : decode cX8_count 81 = .ok (.ireturn, 1) := by decide +kernel
theorem dX8_count_82 : decode cX8_count 82 = .ok (.aload_n 0, 1) := by decide +kernel
theorem dX8_count_83 : decode cX8_count 83 = .ok (.getfield 52, 3) := by decide +kernel
theorem dX8_count_86 : decode cX8_count 86 = .ok (.getfield 224, 3) := by decide +kernel
theorem dX8_count_89 : decode cX8_count 89 = .ok (.ireturn, 1) := by decide +kernel
theorem dX8_count_90 : decode cX8_count 90 = .ok (.aload_n 0, 1) := by decide +kernel
theorem dX8_count_91 : decode cX8_count 91 = .ok (.getfield 25, 3) := by decide +kernel
theorem dX8_count_94 : decode cX8_count 94 = .ok (.getfield 173, 3) := by decide +kernel
theorem dX8_count_97 : decode cX8_count 97 = .ok (.ireturn, 1) := by decide +kernel
theorem dX8_count_98 : decode cX8_count 98 = .ok (.aload_n 0, 1) := by decide +kernel
theorem dX8_count_99 : decode cX8_count 99 = .ok (.getfield 56, 3) := by decide +kernel
theorem dX8_count_102 : decode cX8_count 102 = .ok (.ireturn, 1) := by decide +kernel
theorem dX8_count_103 : decode cX8_count 103 = .ok (.iconst (-1), 1) := by decide +kernel
theorem dX8_count_104 : decode cX8_count 104 = .ok (.ireturn, 1) := by decide +kernel
theorem dX8_isWithin_0 : decode cX8_isWithin 0 = .ok (.iload_n 0, 1) := by decide +kernel
theorem dX8_isWithin_1 : decode cX8_isWithin 1 = .ok (.iload_n 1, 1) := by decide +kernel
theorem dX8_isWithin_2 : decode cX8_isWithin 2 = .ok (.if_icmp .lt 12, 3) := by decide +kernel
theorem dX8_isWithin_5 : decode cX8_isWithin 5 = .ok (.iload_n 0, 1) := by decide +kernel
theorem dX8_isWithin_6 : decode cX8_isWithin 6 = .ok (.iload_n 2, 1) := by decide +kernel
theorem dX8_isWithin_7 : decode cX8_isWithin 7 = .ok (.if_icmp .gt 7, 3) := by decide +kernel
theorem dX8_isWithin_10 : decode cX8_isWithin 10 = .ok (.iconst 1, 1) := by decide +kernel
theorem dX8_isWithin_11 : decode cX8_isWithin 11 = .ok (.goto 4, 3) := by decide +kernel
theorem dX8_isWithin_14 : decode cX8_isWithin 14 = .ok (.iconst 0, 1) := by decide +kernel
theorem dX8_isWithin_15 : decode cX8_isWithin 15 = .ok (.ireturn, 1) := by decide +kernel
set_option maxRecDepth 20000 in
theorem dX8_isCirculation_0 : decode cX8_isCirculation 0 = .ok (.iload_n 0, 1) := by decide +kernel
theorem dX8_isCirculation_1 : decode cX8_isCirculation 1 = .ok (.iconst 1, 1) := by decide +kernel
theorem dX8_isCirculation_2 : decode cX8_isCirculation 2 = .ok (.ldc 227, 2) := by decide +kernel
theorem dX8_isCirculation_4 : decode cX8_isCirculation 4 = .ok (.invokestatic 63, 3) := by decide +kernel
theorem dX8_isCirculation_7 : decode cX8_isCirculation 7 = .ok (.ireturn, 1) := by decide +kernel
set_option maxRecDepth 20000 in
theorem dX8_featureAt_0 : decode cX8_featureAt 0 = .ok (.iload_n 1, 1) := by decide +kernel
theorem dX8_featureAt_1 : decode cX8_featureAt 1 = .ok (.iconst 0, 1) := by decide +kernel
theorem dX8_featureAt_2 : decode cX8_featureAt 2 = .ok (.aload_n 0, 1) := by decide +kernel
theorem dX8_featureAt_3 : decode cX8_featureAt 3 = .ok (.getfield 12, 3) := by decide +kernel
theorem dX8_featureAt_6 : decode cX8_featureAt 6 = .ok (.invokevirtual 67, 3) := by decide +kernel
theorem dX8_featureAt_9 : decode cX8_featureAt 9 = .ok (.iconst 1, 1) := by decide +kernel
theorem dX8_featureAt_10 : decode cX8_featureAt 10 = .ok (.isub, 1) := by decide +kernel
theorem dX8_featureAt_11 : decode cX8_featureAt 11 = .ok (.invokestatic 63, 3) := by decide +kernel
theorem dX8_featureAt_14 : decode cX8_featureAt 14 = .ok (.ifCond .eq 17, 3) := by decide +kernel
theorem dX8_featureAt_17 : decode cX8_featureAt 17 = .ok (.aload_n 0, 1) := by decide +kernel
theorem dX8_featureAt_18 : decode cX8_featureAt 18 = .ok (.getfield 12, 3) := by decide +kernel
theorem dX8_featureAt_21 : decode cX8_featureAt 21 = .ok (.iload_n 1, 1) := by decide +kernel
theorem dX8_featureAt_22 : decode cX8_featureAt 22 = .ok (.invokevirtual 114, 3) := by decide +kernel
theorem dX8_featureAt_25 : decode cX8_featureAt 25 = .ok (.checkcast 71, 3) := by decide +kernel
theorem dX8_featureAt_28 : decode cX8_featureAt 28 = .ok (.goto 4, 3) := by decide +kernel
theorem dX8_featureAt_31 : decode cX8_featureAt 31 = .ok (.aconst_null, 1) := by decide +kernel
theorem dX8_featureAt_32 : decode cX8_featureAt 32 = .ok (.areturn, 1) := by decide +kernel
set_option maxRecDepth 20000 in
theorem dX8_paperAt_0 : decode cX8_paperAt 0 = .ok (.iload_n 1, 1) := by decide +kernel
theorem dX8_paperAt_1 : decode cX8_paperAt 1 = .ok (.iconst 0, 1) := by decide +kernel
theorem dX8_paperAt_2 : decode cX8_paperAt 2 = .ok (.aload_n 0, 1) := by decide +kernel
theorem dX8_paperAt_3 : decode cX8_paperAt 3 = .ok (.getfield 16, 3) := by decide +kernel
theorem dX8_paperAt_6 : decode cX8_paperAt 6 = .ok (.invokevirtual 67, 3) := by decide +kernel
theorem dX8_paperAt_9 : decode cX8_paperAt 9 = .ok (.iconst 1, 1) := by decide +kernel
theorem dX8_paperAt_10 : decode cX8_paperAt 10 = .ok (.isub, 1) := by decide +kernel
theorem dX8_paperAt_11 : decode cX8_paperAt 11 = .ok (.invokestatic 63, 3) := by decide +kernel
theorem dX8_paperAt_14 : decode cX8_paperAt 14 = .ok (.ifCond .eq 17, 3) := by decide +kernel
theorem dX8_paperAt_17 : decode cX8_paperAt 17 = .ok (.aload_n 0, 1) := by decide +kernel
theorem dX8_paperAt_18 : decode cX8_paperAt 18 = .ok (.getfield 16, 3) := by decide +kernel
theorem dX8_paperAt_21 : decode cX8_paperAt 21 = .ok (.iload_n 1, 1) := by decide +kernel
theorem dX8_paperAt_22 : decode cX8_paperAt 22 = .ok (.invokevirtual 114, 3) := by decide +kernel
theorem dX8_paperAt_25 : decode cX8_paperAt 25 = .ok (.checkcast 87, 3) := by decide +kernel
theorem dX8_paperAt_28 : decode cX8_paperAt 28 = .ok (.goto 4, 3) := by decide +kernel
theorem dX8_paperAt_31 : decode cX8_paperAt 31 = .ok (.aconst_null, 1) := by decide +kernel
theorem dX8_paperAt_32 : decode cX8_paperAt 32 = .ok (.areturn, 1) := by decide +kernel
set_option maxRecDepth 20000 in
theorem dX8_contractAt_0 : decode cX8_contractAt 0 = .ok (.iload_n 1, 1) := by decide +kernel
theorem dX8_contractAt_1 : decode cX8_contractAt 1 = .ok (.iconst 0, 1) := by decide +kernel
theorem dX8_contractAt_2 : decode cX8_contractAt 2 = .ok (.aload_n 0, 1) := by decide +kernel
theorem dX8_contractAt_3 : decode cX8_contractAt 3 = .ok (.getfield 19, 3) := by decide +kernel
theorem dX8_contractAt_6 : decode cX8_contractAt 6 = .ok (.invokevirtual 67, 3) := by decide +kernel
theorem dX8_contractAt_9 : decode cX8_contractAt 9 = .ok (.iconst 1, 1) := by decide +kernel
theorem dX8_contractAt_10 : decode cX8_contractAt 10 = .ok (.isub, 1) := by decide +kernel
theorem dX8_contractAt_11 : decode cX8_contractAt 11 = .ok (.invokestatic 63, 3) := by decide +kernel
theorem dX8_contractAt_14 : decode cX8_contractAt 14 = .ok (.ifCond .eq 17, 3) := by decide +kernel
theorem dX8_contractAt_17 : decode cX8_contractAt 17 = .ok (.aload_n 0, 1) := by decide +kernel
theorem dX8_contractAt_18 : decode cX8_contractAt 18 = .ok (.getfield 19, 3) := by decide +kernel
theorem dX8_contractAt_21 : decode cX8_contractAt 21 = .ok (.iload_n 1, 1) := by decide +kernel
theorem dX8_contractAt_22 : decode cX8_contractAt 22 = .ok (.invokevirtual 114, 3) := by decide +kernel
theorem dX8_contractAt_25 : decode cX8_contractAt 25 = .ok (.checkcast 118, 3) := by decide +kernel
theorem dX8_contractAt_28 : decode cX8_contractAt 28 = .ok (.goto 4, 3) := by decide +kernel
theorem dX8_contractAt_31 : decode cX8_contractAt 31 = .ok (.aconst_null, 1) := by decide +kernel
theorem dX8_contractAt_32 : decode cX8_contractAt 32 = .ok (.areturn, 1) := by decide +kernel
theorem dX8_runningMonth_0 : decode cX8_runningMonth 0 = .ok (.aload_n 0, 1) := by decide +kernel
theorem dX8_runningMonth_1 : decode cX8_runningMonth 1 = .ok (.getfield 60, 3) := by decide +kernel
theorem dX8_runningMonth_4 : decode cX8_runningMonth 4 = .ok (.iconst 4, 1) := by decide +kernel
theorem dX8_runningMonth_5 : decode cX8_runningMonth 5 = .ok (.idiv, 1) := by decide +kernel
theorem dX8_runningMonth_6 : decode cX8_runningMonth 6 = .ok (.ireturn, 1) := by decide +kernel
set_option maxRecDepth 20000 in
theorem dX8_runningContracts_0 : decode cX8_runningContracts 0 = .ok (.iconst 0, 1) := by decide +kernel
theorem dX8_runningContracts_1 : decode cX8_runningContracts 1 = .ok (.istore_n 1, 1) := by decide +kernel
theorem dX8_runningContracts_2 : decode cX8_runningContracts 2 = .ok (.iconst 0, 1) := by decide +kernel
theorem dX8_runningContracts_3 : decode cX8_runningContracts 3 = .ok (.istore_n 2, 1) := by decide +kernel
theorem dX8_runningContracts_4 : decode cX8_runningContracts 4 = .ok (.iload_n 2, 1) := by decide +kernel
theorem dX8_runningContracts_5 : decode cX8_runningContracts 5 = .ok (.aload_n 0, 1) := by decide +kernel
theorem dX8_runningContracts_6 : decode cX8_runningContracts 6 = .ok (.getfield 19, 3) := by decide +kernel
theorem dX8_runningContracts_9 : decode cX8_runningContracts 9 = .ok (.invokevirtual 67, 3) := by decide +kernel
theorem dX8_runningContracts_12 : decode cX8_runningContracts 12 = .ok (.if_icmp .ge 35, 3) := by decide +kernel
theorem dX8_runningContracts_15 : decode cX8_runningContracts 15 = .ok (.aload_n 0, 1) := by decide +kernel
theorem dX8_runningContracts_16 : decode cX8_runningContracts 16 = .ok (.getfield 19, 3) := by decide +kernel
theorem dX8_runningContracts_19 : decode cX8_runningContracts 19 = .ok (.iload_n 2, 1) := by decide +kernel
theorem dX8_runningContracts_20 : decode cX8_runningContracts 20 = .ok (.invokevirtual 114, 3) := by decide +kernel
theorem dX8_runningContracts_23 : decode cX8_runningContracts 23 = .ok (.checkcast 118, 3) := by decide +kernel
theorem dX8_runningContracts_26 : decode cX8_runningContracts 26 = .ok (.aload_n 0, 1) := by decide +kernel
theorem dX8_runningContracts_27 : decode cX8_runningContracts 27 = .ok (.getfield 60, 3) := by decide +kernel
theorem dX8_runningContracts_30 : decode cX8_runningContracts 30 = .ok (.iconst 1, 1) := by decide +kernel
theorem dX8_runningContracts_31 : decode cX8_runningContracts 31 = .ok (.iadd, 1) := by decide +kernel
theorem dX8_runningContracts_32 : decode cX8_runningContracts 32 = .ok (.invokevirtual 194, 3) := by decide +kernel
theorem dX8_runningContracts_35 : decode cX8_runningContracts 35 = .ok (.ifCond .eq 6, 3) := by decide +kernel
theorem dX8_runningContracts_38 : decode cX8_runningContracts 38 = .ok (.iinc 1 1, 3) := by decide +kernel
theorem dX8_runningContracts_41 : decode cX8_runningContracts 41 = .ok (.iinc 2 1, 3) := by decide +kernel
theorem dX8_runningContracts_44 : decode cX8_runningContracts 44 = .ok (.goto (-40), 3) := by decide +kernel
theorem dX8_runningContracts_47 : decode cX8_runningContracts 47 = .ok (.iload_n 1, 1) := by decide +kernel
theorem dX8_runningContracts_48 : decode cX8_runningContracts 48 = .ok (.ireturn, 1) := by decide +kernel
set_option maxRecDepth 20000 in
theorem dX8_hasRunning_0 : decode cX8_hasRunning 0 = .ok (.iconst 0, 1) := by decide +kernel
theorem dX8_hasRunning_1 : decode cX8_hasRunning 1 = .ok (.istore_n 3, 1) := by decide +kernel
theorem dX8_hasRunning_2 : decode cX8_hasRunning 2 = .ok (.iload_n 3, 1) := by decide +kernel
theorem dX8_hasRunning_3 : decode cX8_hasRunning 3 = .ok (.aload_n 0, 1) := by decide +kernel
theorem dX8_hasRunning_4 : decode cX8_hasRunning 4 = .ok (.getfield 19, 3) := by decide +kernel
theorem dX8_hasRunning_7 : decode cX8_hasRunning 7 = .ok (.invokevirtual 67, 3) := by decide +kernel
theorem dX8_hasRunning_10 : decode cX8_hasRunning 10 = .ok (.if_icmp .ge 56, 3) := by decide +kernel
theorem dX8_hasRunning_13 : decode cX8_hasRunning 13 = .ok (.aload_n 0, 1) := by decide +kernel
theorem dX8_hasRunning_14 : decode cX8_hasRunning 14 = .ok (.getfield 19, 3) := by decide +kernel
theorem dX8_hasRunning_17 : decode cX8_hasRunning 17 = .ok (.iload_n 3, 1) := by decide +kernel
theorem dX8_hasRunning_18 : decode cX8_hasRunning 18 = .ok (.invokevirtual 114, 3) := by decide +kernel
theorem dX8_hasRunning_21 : decode cX8_hasRunning 21 = .ok (.checkcast 118, 3) := by decide +kernel
theorem dX8_hasRunning_24 : decode cX8_hasRunning 24 = .ok (.astore 4, 2) := by decide +kernel
theorem dX8_hasRunning_26 : decode cX8_hasRunning 26 = .ok (.aload 4, 2) := by decide +kernel
theorem dX8_hasRunning_28 : decode cX8_hasRunning 28 = .ok (.getfield 120, 3) := by decide +kernel
theorem dX8_hasRunning_31 : decode cX8_hasRunning 31 = .ok (.aload_n 1, 1) := by decide +kernel
theorem dX8_hasRunning_32 : decode cX8_hasRunning 32 = .ok (.if_acmp .ne 28, 3) := by decide +kernel
theorem dX8_hasRunning_35 : decode cX8_hasRunning 35 = .ok (.aload 4, 2) := by decide +kernel
theorem dX8_hasRunning_37 : decode cX8_hasRunning 37 = .ok (.getfield 187, 3) := by decide +kernel
theorem dX8_hasRunning_40 : decode cX8_hasRunning 40 = .ok (.aload_n 2, 1) := by decide +kernel
theorem dX8_hasRunning_41 : decode cX8_hasRunning 41 = .ok (.if_acmp .ne 19, 3) := by decide +kernel
theorem dX8_hasRunning_44 : decode cX8_hasRunning 44 = .ok (.aload 4, 2) := by decide +kernel
theorem dX8_hasRunning_46 : decode cX8_hasRunning 46 = .ok (.aload_n 0, 1) := by decide +kernel
theorem dX8_hasRunning_47 : decode cX8_hasRunning 47 = .ok (.getfield 60, 3) := by decide +kernel
theorem dX8_hasRunning_50 : decode cX8_hasRunning 50 = .ok (.iconst 1, 1) := by decide +kernel
theorem dX8_hasRunning_51 : decode cX8_hasRunning 51 = .ok (.iadd, 1) := by decide +kernel
theorem dX8_hasRunning_52 : decode cX8_hasRunning 52 = .ok (.invokevirtual 194, 3) := by decide +kernel
theorem dX8_hasRunning_55 : decode cX8_hasRunning 55 = .ok (.ifCond .eq 5, 3) := by decide +kernel
theorem dX8_hasRunning_58 : decode cX8_hasRunning 58 = .ok (.iconst 1, 1) := by decide +kernel
theorem dX8_hasRunning_59 : decode cX8_hasRunning 59 = .ok (.ireturn, 1) := by decide +kernel
theorem dX8_hasRunning_60 : decode cX8_hasRunning 60 = .ok (.iinc 3 1, 3) := by decide +kernel
theorem dX8_hasRunning_63 : decode cX8_hasRunning 63 = .ok (.goto (-61), 3) := by decide +kernel
theorem dX8_hasRunning_66 : decode cX8_hasRunning 66 = .ok (.iconst 0, 1) := by decide +kernel
theorem dX8_hasRunning_67 : decode cX8_hasRunning 67 = .ok (.ireturn, 1) := by decide +kernel
set_option maxRecDepth 20000 in
theorem dX8_isBarred_0 : decode cX8_isBarred 0 = .ok (.iconst 0, 1) := by decide +kernel
theorem dX8_isBarred_1 : decode cX8_isBarred 1 = .ok (.istore_n 3, 1) := by decide +kernel
theorem dX8_isBarred_2 : decode cX8_isBarred 2 = .ok (.iload_n 3, 1) := by decide +kernel
theorem dX8_isBarred_3 : decode cX8_isBarred 3 = .ok (.aload_n 0, 1) := by decide +kernel
theorem dX8_isBarred_4 : decode cX8_isBarred 4 = .ok (.getfield 19, 3) := by decide +kernel
theorem dX8_isBarred_7 : decode cX8_isBarred 7 = .ok (.invokevirtual 67, 3) := by decide +kernel
theorem dX8_isBarred_10 : decode cX8_isBarred 10 = .ok (.if_icmp .ge 84, 3) := by decide +kernel
theorem dX8_isBarred_13 : decode cX8_isBarred 13 = .ok (.aload_n 0, 1) := by decide +kernel
theorem dX8_isBarred_14 : decode cX8_isBarred 14 = .ok (.getfield 19, 3) := by decide +kernel
theorem dX8_isBarred_17 : decode cX8_isBarred 17 = .ok (.iload_n 3, 1) := by decide +kernel
theorem dX8_isBarred_18 : decode cX8_isBarred 18 = .ok (.invokevirtual 114, 3) := by decide +kernel
theorem dX8_isBarred_21 : decode cX8_isBarred 21 = .ok (.checkcast 118, 3) := by decide +kernel
theorem dX8_isBarred_24 : decode cX8_isBarred 24 = .ok (.astore 4, 2) := by decide +kernel
theorem dX8_isBarred_26 : decode cX8_isBarred 26 = .ok (.aload 4, 2) := by decide +kernel
theorem dX8_isBarred_28 : decode cX8_isBarred 28 = .ok (.getfield 120, 3) := by decide +kernel
theorem dX8_isBarred_31 : decode cX8_isBarred 31 = .ok (.aload_n 1, 1) := by decide +kernel
theorem dX8_isBarred_32 : decode cX8_isBarred 32 = .ok (.if_acmp .eq 30, 3) := by decide +kernel
theorem dX8_isBarred_35 : decode cX8_isBarred 35 = .ok (.aload 4, 2) := by decide +kernel
theorem dX8_isBarred_37 : decode cX8_isBarred 37 = .ok (.getfield 187, 3) := by decide +kernel
theorem dX8_isBarred_40 : decode cX8_isBarred 40 = .ok (.aload_n 2, 1) := by decide +kernel
theorem dX8_isBarred_41 : decode cX8_isBarred 41 = .ok (.if_acmp .ne 21, 3) := by decide +kernel
theorem dX8_isBarred_44 : decode cX8_isBarred 44 = .ok (.aload 4, 2) := by decide +kernel
theorem dX8_isBarred_46 : decode cX8_isBarred 46 = .ok (.aload_n 0, 1) := by decide +kernel
theorem dX8_isBarred_47 : decode cX8_isBarred 47 = .ok (.getfield 60, 3) := by decide +kernel
theorem dX8_isBarred_50 : decode cX8_isBarred 50 = .ok (.iconst 1, 1) := by decide +kernel
theorem dX8_isBarred_51 : decode cX8_isBarred 51 = .ok (.iadd, 1) := by decide +kernel
theorem dX8_isBarred_52 : decode cX8_isBarred 52 = .ok (.invokevirtual 194, 3) := by decide +kernel
theorem dX8_isBarred_55 : decode cX8_isBarred 55 = .ok (.ifCond .eq 7, 3) := by decide +kernel
theorem dX8_isBarred_58 : decode cX8_isBarred 58 = .ok (.iconst 1, 1) := by decide +kernel
theorem dX8_isBarred_59 : decode cX8_isBarred 59 = .ok (.goto 4, 3) := by decide +kernel
theorem dX8_isBarred_62 : decode cX8_isBarred 62 = .ok (.iconst 0, 1) := by decide +kernel
theorem dX8_isBarred_63 : decode cX8_isBarred 63 = .ok (.istore 5, 2) := by decide +kernel
theorem dX8_isBarred_65 : decode cX8_isBarred 65 = .ok (.iload 5, 2) := by decide +kernel
theorem dX8_isBarred_67 : decode cX8_isBarred 67 = .ok (.ifCond .eq 21, 3) := by decide +kernel
theorem dX8_isBarred_70 : decode cX8_isBarred 70 = .ok (.aload 4, 2) := by decide +kernel
theorem dX8_isBarred_72 : decode cX8_isBarred 72 = .ok (.getfield 120, 3) := by decide +kernel
theorem dX8_isBarred_75 : decode cX8_isBarred 75 = .ok (.aload_n 1, 1) := by decide +kernel
theorem dX8_isBarred_76 : decode cX8_isBarred 76 = .ok (.aload_n 2, 1) := by decide +kernel
theorem dX8_isBarred_77 : decode cX8_isBarred 77 = .ok (.getfield 228, 3) := by decide +kernel
theorem dX8_isBarred_80 : decode cX8_isBarred 80 = .ok (.invokevirtual 231, 3) := by decide +kernel
theorem dX8_isBarred_83 : decode cX8_isBarred 83 = .ok (.ifCond .eq 5, 3) := by decide +kernel
theorem dX8_isBarred_86 : decode cX8_isBarred 86 = .ok (.iconst 1, 1) := by decide +kernel
theorem dX8_isBarred_87 : decode cX8_isBarred 87 = .ok (.ireturn, 1) := by decide +kernel
theorem dX8_isBarred_88 : decode cX8_isBarred 88 = .ok (.iinc 3 1, 3) := by decide +kernel
theorem dX8_isBarred_91 : decode cX8_isBarred 91 = .ok (.goto (-89), 3) := by decide +kernel
theorem dX8_isBarred_94 : decode cX8_isBarred 94 = .ok (.iconst 0, 1) := by decide +kernel
theorem dX8_isBarred_95 : decode cX8_isBarred 95 = .ok (.ireturn, 1) := by decide +kernel
set_option maxRecDepth 20000 in
theorem dX8_passWeek_0 : decode cX8_passWeek 0 = .ok (.aload_n 0, 1) := by decide +kernel
theorem dX8_passWeek_1 : decode cX8_passWeek 1 = .ok (.dup, 1) := by decide +kernel
theorem dX8_passWeek_2 : decode cX8_passWeek 2 = .ok (.getfield 60, 3) := by decide +kernel
theorem dX8_passWeek_5 : decode cX8_passWeek 5 = .ok (.iconst 1, 1) := by decide +kernel
theorem dX8_passWeek_6 : decode cX8_passWeek 6 = .ok (.iadd, 1) := by decide +kernel
theorem dX8_passWeek_7 : decode cX8_passWeek 7 = .ok (.putfield 60, 3) := by decide +kernel
theorem dX8_passWeek_10 : decode cX8_passWeek 10 = .ok (.iconst 0, 1) := by decide +kernel
theorem dX8_passWeek_11 : decode cX8_passWeek 11 = .ok (.istore_n 1, 1) := by decide +kernel
theorem dX8_passWeek_12 : decode cX8_passWeek 12 = .ok (.iload_n 1, 1) := by decide +kernel
theorem dX8_passWeek_13 : decode cX8_passWeek 13 = .ok (.aload_n 0, 1) := by decide +kernel
theorem dX8_passWeek_14 : decode cX8_passWeek 14 = .ok (.getfield 12, 3) := by decide +kernel
theorem dX8_passWeek_17 : decode cX8_passWeek 17 = .ok (.invokevirtual 67, 3) := by decide +kernel
theorem dX8_passWeek_20 : decode cX8_passWeek 20 = .ok (.if_icmp .ge 27, 3) := by decide +kernel
theorem dX8_passWeek_23 : decode cX8_passWeek 23 = .ok (.aload_n 0, 1) := by decide +kernel
theorem dX8_passWeek_24 : decode cX8_passWeek 24 = .ok (.getfield 12, 3) := by decide +kernel
theorem dX8_passWeek_27 : decode cX8_passWeek 27 = .ok (.iload_n 1, 1) := by decide +kernel
theorem dX8_passWeek_28 : decode cX8_passWeek 28 = .ok (.invokevirtual 114, 3) := by decide +kernel
theorem dX8_passWeek_31 : decode cX8_passWeek 31 = .ok (.checkcast 71, 3) := by decide +kernel
theorem dX8_passWeek_34 : decode cX8_passWeek 34 = .ok (.aload_n 0, 1) := by decide +kernel
theorem dX8_passWeek_35 : decode cX8_passWeek 35 = .ok (.getfield 60, 3) := by decide +kernel
theorem dX8_passWeek_38 : decode cX8_passWeek 38 = .ok (.invokevirtual 235, 3) := by decide +kernel
theorem dX8_passWeek_41 : decode cX8_passWeek 41 = .ok (.iinc 1 1, 3) := by decide +kernel
theorem dX8_passWeek_44 : decode cX8_passWeek 44 = .ok (.goto (-32), 3) := by decide +kernel
theorem dX8_passWeek_47 : decode cX8_passWeek 47 = .ok (.iconst 0, 1) := by decide +kernel
theorem dX8_passWeek_48 : decode cX8_passWeek 48 = .ok (.istore_n 1, 1) := by decide +kernel
theorem dX8_passWeek_49 : decode cX8_passWeek 49 = .ok (.iload_n 1, 1) := by decide +kernel
theorem dX8_passWeek_50 : decode cX8_passWeek 50 = .ok (.aload_n 0, 1) := by decide +kernel
theorem dX8_passWeek_51 : decode cX8_passWeek 51 = .ok (.getfield 19, 3) := by decide +kernel
theorem dX8_passWeek_54 : decode cX8_passWeek 54 = .ok (.invokevirtual 67, 3) := by decide +kernel
theorem dX8_passWeek_57 : decode cX8_passWeek 57 = .ok (.if_icmp .ge 52, 3) := by decide +kernel
theorem dX8_passWeek_60 : decode cX8_passWeek 60 = .ok (.aload_n 0, 1) := by decide +kernel
theorem dX8_passWeek_61 : decode cX8_passWeek 61 = .ok (.getfield 19, 3) := by decide +kernel
theorem dX8_passWeek_64 : decode cX8_passWeek 64 = .ok (.iload_n 1, 1) := by decide +kernel
theorem dX8_passWeek_65 : decode cX8_passWeek 65 = .ok (.invokevirtual 114, 3) := by decide +kernel
theorem dX8_passWeek_68 : decode cX8_passWeek 68 = .ok (.checkcast 118, 3) := by decide +kernel
theorem dX8_passWeek_71 : decode cX8_passWeek 71 = .ok (.astore_n 2, 1) := by decide +kernel
theorem dX8_passWeek_72 : decode cX8_passWeek 72 = .ok (.aload_n 2, 1) := by decide +kernel
theorem dX8_passWeek_73 : decode cX8_passWeek 73 = .ok (.aload_n 0, 1) := by decide +kernel
theorem dX8_passWeek_74 : decode cX8_passWeek 74 = .ok (.getfield 60, 3) := by decide +kernel
theorem dX8_passWeek_77 : decode cX8_passWeek 77 = .ok (.invokevirtual 194, 3) := by decide +kernel
theorem dX8_passWeek_80 : decode cX8_passWeek 80 = .ok (.ifCond .eq 23, 3) := by decide +kernel
theorem dX8_passWeek_83 : decode cX8_passWeek 83 = .ok (.aload_n 2, 1) := by decide +kernel
theorem dX8_passWeek_84 : decode cX8_passWeek 84 = .ok (.aload_n 0, 1) := by decide +kernel
theorem dX8_passWeek_85 : decode cX8_passWeek 85 = .ok (.getfield 60, 3) := by decide +kernel
theorem dX8_passWeek_88 : decode cX8_passWeek 88 = .ok (.invokevirtual 238, 3) := by decide +kernel
theorem dX8_passWeek_91 : decode cX8_passWeek 91 = .ok (.aload_n 2, 1) := by decide +kernel
theorem dX8_passWeek_92 : decode cX8_passWeek 92 = .ok (.aload_n 0, 1) := by decide +kernel
theorem dX8_passWeek_93 : decode cX8_passWeek 93 = .ok (.getfield 60, 3) := by decide +kernel
theorem dX8_passWeek_96 : decode cX8_passWeek 96 = .ok (.iconst 1, 1) := by decide +kernel
theorem dX8_passWeek_97 : decode cX8_passWeek 97 = .ok (.isub, 1) := by decide +kernel
theorem dX8_passWeek_98 : decode cX8_passWeek 98 = .ok (.iconst 4, 1) := by decide +kernel
theorem dX8_passWeek_99 : decode cX8_passWeek 99 = .ok (.idiv, 1) := by decide +kernel
theorem dX8_passWeek_100 : decode cX8_passWeek 100 = .ok (.invokevirtual 241, 3) := by decide +kernel
theorem dX8_passWeek_103 : decode cX8_passWeek 103 = .ok (.iinc 1 1, 3) := by decide +kernel
theorem dX8_passWeek_106 : decode cX8_passWeek 106 = .ok (.goto (-57), 3) := by decide +kernel
theorem dX8_passWeek_109 : decode cX8_passWeek 109 = .ok (.aload_n 0, 1) := by decide +kernel
theorem dX8_passWeek_110 : decode cX8_passWeek 110 = .ok (.getfield 60, 3) := by decide +kernel
theorem dX8_passWeek_113 : decode cX8_passWeek 113 = .ok (.iconst 4, 1) := by decide +kernel
theorem dX8_passWeek_114 : decode cX8_passWeek 114 = .ok (.irem, 1) := by decide +kernel
theorem dX8_passWeek_115 : decode cX8_passWeek 115 = .ok (.ifCond .ne 15, 3) := by decide +kernel
theorem dX8_passWeek_118 : decode cX8_passWeek 118 = .ok (.aload_n 0, 1) := by decide +kernel
theorem dX8_passWeek_119 : decode cX8_passWeek 119 = .ok (.aload_n 0, 1) := by decide +kernel
theorem dX8_passWeek_120 : decode cX8_passWeek 120 = .ok (.getfield 60, 3) := by decide +kernel
theorem dX8_passWeek_123 : decode cX8_passWeek 123 = .ok (.iconst 4, 1) := by decide +kernel
theorem dX8_passWeek_124 : decode cX8_passWeek 124 = .ok (.idiv, 1) := by decide +kernel
theorem dX8_passWeek_125 : decode cX8_passWeek 125 = .ok (.iconst 1, 1) := by decide +kernel
theorem dX8_passWeek_126 : decode cX8_passWeek 126 = .ok (.isub, 1) := by decide +kernel
theorem dX8_passWeek_127 : decode cX8_passWeek 127 = .ok (.invokevirtual 244, 3) := by decide +kernel
theorem dX8_passWeek_130 : decode cX8_passWeek 130 = .ok (.return_, 1) := by decide +kernel
set_option maxRecDepth 20000 in
theorem dX8_endMonth_0 : decode cX8_endMonth 0 = .ok (.iload_n 1, 1) := by decide +kernel
theorem dX8_endMonth_1 : decode cX8_endMonth 1 = .ok (.iconst 0, 1) := by decide +kernel
theorem dX8_endMonth_2 : decode cX8_endMonth 2 = .ok (.bipush 49, 2) := by decide +kernel
theorem dX8_endMonth_4 : decode cX8_endMonth 4 = .ok (.invokestatic 63, 3) := by decide +kernel
theorem dX8_endMonth_7 : decode cX8_endMonth 7 = .ok (.ifCond .ne 4, 3) := by decide +kernel
theorem dX8_endMonth_10 : decode cX8_endMonth 10 = .ok (.return_, 1) := by decide +kernel
theorem dX8_endMonth_11 : decode cX8_endMonth 11 = .ok (.aload_n 0, 1) := by decide +kernel
theorem dX8_endMonth_12 : decode cX8_endMonth 12 = .ok (.getfield 45, 3) := by decide +kernel
theorem dX8_endMonth_15 : decode cX8_endMonth 15 = .ok (.iload_n 1, 1) := by decide +kernel
theorem dX8_endMonth_16 : decode cX8_endMonth 16 = .ok (.aload_n 0, 1) := by decide +kernel
theorem dX8_endMonth_17 : decode cX8_endMonth 17 = .ok (.getfield 52, 3) := by decide +kernel
theorem dX8_endMonth_20 : decode cX8_endMonth 20 = .ok (.aastore, 1) := by decide +kernel
theorem dX8_endMonth_21 : decode cX8_endMonth 21 = .ok (.iconst 0, 1) := by decide +kernel
theorem dX8_endMonth_22 : decode cX8_endMonth 22 = .ok (.istore_n 2, 1) := by decide +kernel
theorem dX8_endMonth_23 : decode cX8_endMonth 23 = .ok (.iload_n 2, 1) := by decide +kernel
theorem dX8_endMonth_24 : decode cX8_endMonth 24 = .ok (.aload_n 0, 1) := by decide +kernel
theorem dX8_endMonth_25 : decode cX8_endMonth 25 = .ok (.getfield 19, 3) := by decide +kernel
theorem dX8_endMonth_28 : decode cX8_endMonth 28 = .ok (.invokevirtual 67, 3) := by decide +kernel
theorem dX8_endMonth_31 : decode cX8_endMonth 31 = .ok (.if_icmp .ge 39, 3) := by decide +kernel
theorem dX8_endMonth_34 : decode cX8_endMonth 34 = .ok (.aload_n 0, 1) := by decide +kernel
theorem dX8_endMonth_35 : decode cX8_endMonth 35 = .ok (.getfield 19, 3) := by decide +kernel
theorem dX8_endMonth_38 : decode cX8_endMonth 38 = .ok (.iload_n 2, 1) := by decide +kernel
theorem dX8_endMonth_39 : decode cX8_endMonth 39 = .ok (.invokevirtual 114, 3) := by decide +kernel
theorem dX8_endMonth_42 : decode cX8_endMonth 42 = .ok (.checkcast 118, 3) := by decide +kernel
theorem dX8_endMonth_45 : decode cX8_endMonth 45 = .ok (.astore_n 3, 1) := by decide +kernel
theorem dX8_endMonth_46 : decode cX8_endMonth 46 = .ok (.aload_n 3, 1) := by decide +kernel
theorem dX8_endMonth_47 : decode cX8_endMonth 47 = .ok (.aload_n 0, 1) := by decide +kernel
theorem dX8_endMonth_48 : decode cX8_endMonth 48 = .ok (.aload_n 3, 1) := by decide +kernel
theorem dX8_endMonth_49 : decode cX8_endMonth 49 = .ok (.iload_n 1, 1) := by decide +kernel
theorem dX8_endMonth_50 : decode cX8_endMonth 50 = .ok (.aload_n 3, 1) := by decide +kernel
theorem dX8_endMonth_51 : decode cX8_endMonth 51 = .ok (.getfield 120, 3) := by decide +kernel
theorem dX8_endMonth_54 : decode cX8_endMonth 54 = .ok (.iload_n 1, 1) := by decide +kernel
theorem dX8_endMonth_55 : decode cX8_endMonth 55 = .ok (.invokevirtual 107, 3) := by decide +kernel
theorem dX8_endMonth_58 : decode cX8_endMonth 58 = .ok (.invokevirtual 124, 3) := by decide +kernel
theorem dX8_endMonth_61 : decode cX8_endMonth 61 = .ok (.invokevirtual 128, 3) := by decide +kernel
theorem dX8_endMonth_64 : decode cX8_endMonth 64 = .ok (.iinc 2 1, 3) := by decide +kernel
theorem dX8_endMonth_67 : decode cX8_endMonth 67 = .ok (.goto (-44), 3) := by decide +kernel
theorem dX8_endMonth_70 : decode cX8_endMonth 70 = .ok (.return_, 1) := by decide +kernel
set_option maxRecDepth 20000 in
theorem dX8_reckon_0 : decode cX8_reckon 0 = .ok (.iload_n 2, 1) := by decide +kernel
theorem dX8_reckon_1 : decode cX8_reckon 1 = .ok (.iconst 0, 1) := by decide +kernel
theorem dX8_reckon_2 : decode cX8_reckon 2 = .ok (.bipush 49, 2) := by decide +kernel
theorem dX8_reckon_4 : decode cX8_reckon 4 = .ok (.invokestatic 63, 3) := by decide +kernel
theorem dX8_reckon_7 : decode cX8_reckon 7 = .ok (.ifCond .eq 12, 3) := by decide +kernel
theorem dX8_reckon_10 : decode cX8_reckon 10 = .ok (.aload_n 0, 1) := by decide +kernel
theorem dX8_reckon_11 : decode cX8_reckon 11 = .ok (.getfield 45, 3) := by decide +kernel
theorem dX8_reckon_14 : decode cX8_reckon 14 = .ok (.iload_n 2, 1) := by decide +kernel
theorem dX8_reckon_15 : decode cX8_reckon 15 = .ok (.aaload, 1) := by decide +kernel
theorem dX8_reckon_16 : decode cX8_reckon 16 = .ok (.goto 4, 3) := by decide +kernel
theorem dX8_reckon_19 : decode cX8_reckon 19 = .ok (.aconst_null, 1) := by decide +kernel
theorem dX8_reckon_20 : decode cX8_reckon 20 = .ok (.astore 4, 2) := by decide +kernel
theorem dX8_reckon_22 : decode cX8_reckon 22 = .ok (.aload_n 1, 1) := by decide +kernel
theorem dX8_reckon_23 : decode cX8_reckon 23 = .ok (.iload_n 2, 1) := by decide +kernel
theorem dX8_reckon_24 : decode cX8_reckon 24 = .ok (.invokevirtual 247, 3) := by decide +kernel
theorem dX8_reckon_27 : decode cX8_reckon 27 = .ok (.istore 5, 2) := by decide +kernel
theorem dX8_reckon_29 : decode cX8_reckon 29 = .ok (.aload 4, 2) := by decide +kernel
theorem dX8_reckon_31 : decode cX8_reckon 31 = .ok (.ifnull 8, 3) := by decide +kernel
theorem dX8_reckon_34 : decode cX8_reckon 34 = .ok (.iload 5, 2) := by decide +kernel
theorem dX8_reckon_36 : decode cX8_reckon 36 = .ok (.ifCond .ne 5, 3) := by decide +kernel
theorem dX8_reckon_39 : decode cX8_reckon 39 = .ok (.iconst 0, 1) := by decide +kernel
theorem dX8_reckon_40 : decode cX8_reckon 40 = .ok (.ireturn, 1) := by decide +kernel
theorem dX8_reckon_41 : decode cX8_reckon 41 = .ok (.aload_n 1, 1) := by decide +kernel
theorem dX8_reckon_42 : decode cX8_reckon 42 = .ok (.iload_n 2, 1) := by decide +kernel
theorem dX8_reckon_43 : decode cX8_reckon 43 = .ok (.invokevirtual 250, 3) := by decide +kernel
theorem dX8_reckon_46 : decode cX8_reckon 46 = .ok (.istore 6, 2) := by decide +kernel
theorem dX8_reckon_48 : decode cX8_reckon 48 = .ok (.aload_n 0, 1) := by decide +kernel
theorem dX8_reckon_49 : decode cX8_reckon 49 = .ok (.getfield 39, 3) := by decide +kernel
theorem dX8_reckon_52 : decode cX8_reckon 52 = .ok (.sipush 10000, 3) := by decide +kernel
theorem dX8_reckon_55 : decode cX8_reckon 55 = .ok (.aload_n 1, 1) := by decide +kernel
theorem dX8_reckon_56 : decode cX8_reckon 56 = .ok (.getfield 187, 3) := by decide +kernel
theorem dX8_reckon_59 : decode cX8_reckon 59 = .ok (.getfield 253, 3) := by decide +kernel
theorem dX8_reckon_62 : decode cX8_reckon 62 = .ok (.invokevirtual 256, 3) := by decide +kernel
theorem dX8_reckon_65 : decode cX8_reckon 65 = .ok (.aload_n 0, 1) := by decide +kernel
theorem dX8_reckon_66 : decode cX8_reckon 66 = .ok (.getfield 39, 3) := by decide +kernel
theorem dX8_reckon_69 : decode cX8_reckon 69 = .ok (.sipush 10001, 3) := by decide +kernel
theorem dX8_reckon_72 : decode cX8_reckon 72 = .ok (.iload_n 3, 1) := by decide +kernel
theorem dX8_reckon_73 : decode cX8_reckon 73 = .ok (.sipush 1000, 3) := by decide +kernel
theorem dX8_reckon_76 : decode cX8_reckon 76 = .ok (.idiv, 1) := by decide +kernel
theorem dX8_reckon_77 : decode cX8_reckon 77 = .ok (.invokevirtual 256, 3) := by decide +kernel
theorem dX8_reckon_80 : decode cX8_reckon 80 = .ok (.aload_n 0, 1) := by decide +kernel
theorem dX8_reckon_81 : decode cX8_reckon 81 = .ok (.getfield 39, 3) := by decide +kernel
theorem dX8_reckon_84 : decode cX8_reckon 84 = .ok (.sipush 10002, 3) := by decide +kernel
theorem dX8_reckon_87 : decode cX8_reckon 87 = .ok (.iload 6, 2) := by decide +kernel
theorem dX8_reckon_89 : decode cX8_reckon 89 = .ok (.invokevirtual 256, 3) := by decide +kernel
theorem dX8_reckon_92 : decode cX8_reckon 92 = .ok (.aload_n 0, 1) := by decide +kernel
theorem dX8_reckon_93 : decode cX8_reckon 93 = .ok (.getfield 39, 3) := by decide +kernel
theorem dX8_reckon_96 : decode cX8_reckon 96 = .ok (.sipush 10003, 3) := by decide +kernel
theorem dX8_reckon_99 : decode cX8_reckon 99 = .ok (.iload_n 2, 1) := by decide +kernel
theorem dX8_reckon_100 : decode cX8_reckon 100 = .ok (.invokevirtual 256, 3) := by decide +kernel
theorem dX8_reckon_103 : decode cX8_reckon 103 = .ok (.aload_n 0, 1) := by decide +kernel
theorem dX8_reckon_104 : decode cX8_reckon 104 = .ok (.getfield 39, 3) := by decide +kernel
theorem dX8_reckon_107 : decode cX8_reckon 107 = .ok (.sipush 10004, 3) := by decide +kernel
theorem dX8_reckon_110 : decode cX8_reckon 110 = .ok (.iload 5, 2) := by decide +kernel
theorem dX8_reckon_112 : decode cX8_reckon 112 = .ok (.invokevirtual 256, 3) := by decide +kernel
theorem dX8_reckon_115 : decode cX8_reckon 115 = .ok (.aload_n 0, 1) := by decide +kernel
theorem dX8_reckon_116 : decode cX8_reckon 116 = .ok (.getfield 39, 3) := by decide +kernel
theorem dX8_reckon_119 : decode cX8_reckon 119 = .ok (.aload 4, 2) := by decide +kernel
theorem dX8_reckon_121 : decode cX8_reckon 121 = .ok (.invokevirtual 259, 3) := by decide +kernel
theorem dX8_reckon_124 : decode cX8_reckon 124 = .ok (.i2l, 1) := by decide +kernel
theorem dX8_reckon_125 : decode cX8_reckon 125 = .ok (.iload 6, 2) := by decide +kernel
theorem dX8_reckon_127 : decode cX8_reckon 127 = .ok (.i2l, 1) := by decide +kernel
theorem dX8_reckon_128 : decode cX8_reckon 128 = .ok (.lmul, 1) := by decide +kernel
theorem dX8_reckon_129 : decode cX8_reckon 129 = .ok (.iload_n 3, 1) := by decide +kernel
theorem dX8_reckon_130 : decode cX8_reckon 130 = .ok (.i2l, 1) := by decide +kernel
theorem dX8_reckon_131 : decode cX8_reckon 131 = .ok (.lmul, 1) := by decide +kernel
theorem dX8_reckon_132 : decode cX8_reckon 132 = .ok (.lstore 7, 2) := by decide +kernel
theorem dX8_reckon_134 : decode cX8_reckon 134 = .ok (.lload 7, 2) := by decide +kernel
theorem dX8_reckon_136 : decode cX8_reckon 136 = .ok (.ldc2_w 263, 3) := by decide +kernel
theorem dX8_reckon_139 : decode cX8_reckon 139 = .ok (.ldiv, 1) := by decide +kernel
theorem dX8_reckon_140 : decode cX8_reckon 140 = .ok (.l2i, 1) := by decide +kernel
theorem dX8_reckon_141 : decode cX8_reckon 141 = .ok (.ireturn, 1) := by decide +kernel
