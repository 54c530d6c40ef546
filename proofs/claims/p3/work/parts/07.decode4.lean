theorem dX6_asks_98 : decode cX6_asks 98 = .ok (.iload_n 2, 1) := by decide +kernel
theorem dX6_asks_99 : decode cX6_asks 99 = .ok (.aload_n 0, 1) := by decide +kernel
theorem dX6_asks_100 : decode cX6_asks 100 = .ok (.getfield 130, 3) := by decide +kernel
theorem dX6_asks_103 : decode cX6_asks 103 = .ok (.iastore, 1) := by decide +kernel
theorem dX6_asks_104 : decode cX6_asks 104 = .ok (.iconst 1, 1) := by decide +kernel
theorem dX6_asks_105 : decode cX6_asks 105 = .ok (.ireturn, 1) := by decide +kernel
set_option maxRecDepth 20000 in
theorem dX6_isChecker_0 : decode cX6_isChecker 0 = .ok (.aload_n 0, 1) := by decide +kernel
theorem dX6_isChecker_1 : decode cX6_isChecker 1 = .ok (.iload_n 2, 1) := by decide +kernel
theorem dX6_isChecker_2 : decode cX6_isChecker 2 = .ok (.invokevirtual 133, 3) := by decide +kernel
theorem dX6_isChecker_5 : decode cX6_isChecker 5 = .ok (.ifCond .eq 29, 3) := by decide +kernel
theorem dX6_isChecker_8 : decode cX6_isChecker 8 = .ok (.iload_n 1, 1) := by decide +kernel
theorem dX6_isChecker_9 : decode cX6_isChecker 9 = .ok (.iconst 0, 1) := by decide +kernel
theorem dX6_isChecker_10 : decode cX6_isChecker 10 = .ok (.iconst 5, 1) := by decide +kernel
theorem dX6_isChecker_11 : decode cX6_isChecker 11 = .ok (.invokestatic 126, 3) := by decide +kernel
theorem dX6_isChecker_14 : decode cX6_isChecker 14 = .ok (.ifCond .eq 20, 3) := by decide +kernel
theorem dX6_isChecker_17 : decode cX6_isChecker 17 = .ok (.aload_n 0, 1) := by decide +kernel
theorem dX6_isChecker_18 : decode cX6_isChecker 18 = .ok (.getfield 23, 3) := by decide +kernel
theorem dX6_isChecker_21 : decode cX6_isChecker 21 = .ok (.iload_n 2, 1) := by decide +kernel
theorem dX6_isChecker_22 : decode cX6_isChecker 22 = .ok (.iaload, 1) := by decide +kernel
theorem dX6_isChecker_23 : decode cX6_isChecker 23 = .ok (.iload_n 1, 1) := by decide +kernel
theorem dX6_isChecker_24 : decode cX6_isChecker 24 = .ok (.invokestatic 150, 3) := by decide +kernel
theorem dX6_isChecker_27 : decode cX6_isChecker 27 = .ok (.ifCond .eq 7, 3) := by decide +kernel
theorem dX6_isChecker_30 : decode cX6_isChecker 30 = .ok (.iconst 1, 1) := by decide +kernel
theorem dX6_isChecker_31 : decode cX6_isChecker 31 = .ok (.goto 4, 3) := by decide +kernel
theorem dX6_isChecker_34 : decode cX6_isChecker 34 = .ok (.iconst 0, 1) := by decide +kernel
theorem dX6_isChecker_35 : decode cX6_isChecker 35 = .ok (.ireturn, 1) := by decide +kernel
set_option maxRecDepth 20000 in
theorem dX6_isHolder_0 : decode cX6_isHolder 0 = .ok (.aload_n 0, 1) := by decide +kernel
theorem dX6_isHolder_1 : decode cX6_isHolder 1 = .ok (.iload_n 2, 1) := by decide +kernel
theorem dX6_isHolder_2 : decode cX6_isHolder 2 = .ok (.invokevirtual 133, 3) := by decide +kernel
theorem dX6_isHolder_5 : decode cX6_isHolder 5 = .ok (.ifCond .eq 30, 3) := by decide +kernel
theorem dX6_isHolder_8 : decode cX6_isHolder 8 = .ok (.iload_n 1, 1) := by decide +kernel
theorem dX6_isHolder_9 : decode cX6_isHolder 9 = .ok (.iconst 0, 1) := by decide +kernel
theorem dX6_isHolder_10 : decode cX6_isHolder 10 = .ok (.bipush 9, 2) := by decide +kernel
theorem dX6_isHolder_12 : decode cX6_isHolder 12 = .ok (.invokestatic 126, 3) := by decide +kernel
theorem dX6_isHolder_15 : decode cX6_isHolder 15 = .ok (.ifCond .eq 20, 3) := by decide +kernel
theorem dX6_isHolder_18 : decode cX6_isHolder 18 = .ok (.aload_n 0, 1) := by decide +kernel
theorem dX6_isHolder_19 : decode cX6_isHolder 19 = .ok (.getfield 20, 3) := by decide +kernel
theorem dX6_isHolder_22 : decode cX6_isHolder 22 = .ok (.iload_n 2, 1) := by decide +kernel
theorem dX6_isHolder_23 : decode cX6_isHolder 23 = .ok (.iaload, 1) := by decide +kernel
theorem dX6_isHolder_24 : decode cX6_isHolder 24 = .ok (.iload_n 1, 1) := by decide +kernel
theorem dX6_isHolder_25 : decode cX6_isHolder 25 = .ok (.invokestatic 150, 3) := by decide +kernel
theorem dX6_isHolder_28 : decode cX6_isHolder 28 = .ok (.ifCond .eq 7, 3) := by decide +kernel
theorem dX6_isHolder_31 : decode cX6_isHolder 31 = .ok (.iconst 1, 1) := by decide +kernel
theorem dX6_isHolder_32 : decode cX6_isHolder 32 = .ok (.goto 4, 3) := by decide +kernel
theorem dX6_isHolder_35 : decode cX6_isHolder 35 = .ok (.iconst 0, 1) := by decide +kernel
theorem dX6_isHolder_36 : decode cX6_isHolder 36 = .ok (.ireturn, 1) := by decide +kernel
set_option maxRecDepth 20000 in
theorem dX6_ask_0 : decode cX6_ask 0 = .ok (.aload_n 0, 1) := by decide +kernel
theorem dX6_ask_1 : decode cX6_ask 1 = .ok (.iconst 0, 1) := by decide +kernel
theorem dX6_ask_2 : decode cX6_ask 2 = .ok (.putfield 120, 3) := by decide +kernel
theorem dX6_ask_5 : decode cX6_ask 5 = .ok (.aload_n 0, 1) := by decide +kernel
theorem dX6_ask_6 : decode cX6_ask 6 = .ok (.iload_n 1, 1) := by decide +kernel
theorem dX6_ask_7 : decode cX6_ask 7 = .ok (.iload_n 2, 1) := by decide +kernel
theorem dX6_ask_8 : decode cX6_ask 8 = .ok (.invokevirtual 195, 3) := by decide +kernel
theorem dX6_ask_11 : decode cX6_ask 11 = .ok (.ifCond .eq 12, 3) := by decide +kernel
theorem dX6_ask_14 : decode cX6_ask 14 = .ok (.aload_n 0, 1) := by decide +kernel
theorem dX6_ask_15 : decode cX6_ask 15 = .ok (.iload_n 3, 1) := by decide +kernel
theorem dX6_ask_16 : decode cX6_ask 16 = .ok (.iload_n 2, 1) := by decide +kernel
theorem dX6_ask_17 : decode cX6_ask 17 = .ok (.invokevirtual 198, 3) := by decide +kernel
theorem dX6_ask_20 : decode cX6_ask 20 = .ok (.ifCond .ne 5, 3) := by decide +kernel
theorem dX6_ask_23 : decode cX6_ask 23 = .ok (.iconst (-1), 1) := by decide +kernel
theorem dX6_ask_24 : decode cX6_ask 24 = .ok (.ireturn, 1) := by decide +kernel
theorem dX6_ask_25 : decode cX6_ask 25 = .ok (.aload_n 0, 1) := by decide +kernel
theorem dX6_ask_26 : decode cX6_ask 26 = .ok (.iload_n 1, 1) := by decide +kernel
theorem dX6_ask_27 : decode cX6_ask 27 = .ok (.iload_n 2, 1) := by decide +kernel
theorem dX6_ask_28 : decode cX6_ask 28 = .ok (.iload_n 3, 1) := by decide +kernel
theorem dX6_ask_29 : decode cX6_ask 29 = .ok (.aload_n 0, 1) := by decide +kernel
theorem dX6_ask_30 : decode cX6_ask 30 = .ok (.getfield 63, 3) := by decide +kernel
theorem dX6_ask_33 : decode cX6_ask 33 = .ok (.bipush 10, 2) := by decide +kernel
theorem dX6_ask_35 : decode cX6_ask 35 = .ok (.iload_n 2, 1) := by decide +kernel
theorem dX6_ask_36 : decode cX6_ask 36 = .ok (.imul, 1) := by decide +kernel
theorem dX6_ask_37 : decode cX6_ask 37 = .ok (.iload_n 1, 1) := by decide +kernel
theorem dX6_ask_38 : decode cX6_ask 38 = .ok (.iadd, 1) := by decide +kernel
theorem dX6_ask_39 : decode cX6_ask 39 = .ok (.iaload, 1) := by decide +kernel
theorem dX6_ask_40 : decode cX6_ask 40 = .ok (.aload_n 0, 1) := by decide +kernel
theorem dX6_ask_41 : decode cX6_ask 41 = .ok (.getfield 60, 3) := by decide +kernel
theorem dX6_ask_44 : decode cX6_ask 44 = .ok (.iload_n 1, 1) := by decide +kernel
theorem dX6_ask_45 : decode cX6_ask 45 = .ok (.baload, 1) := by decide +kernel
theorem dX6_ask_46 : decode cX6_ask 46 = .ok (.ifCond .ne 7, 3) := by decide +kernel
theorem dX6_ask_49 : decode cX6_ask 49 = .ok (.iconst 1, 1) := by decide +kernel
theorem dX6_ask_50 : decode cX6_ask 50 = .ok (.goto 4, 3) := by decide +kernel
theorem dX6_ask_53 : decode cX6_ask 53 = .ok (.iconst 0, 1) := by decide +kernel
theorem dX6_ask_54 : decode cX6_ask 54 = .ok (.invokevirtual 201, 3) := by decide +kernel
theorem dX6_ask_57 : decode cX6_ask 57 = .ok (.ireturn, 1) := by decide +kernel
set_option maxRecDepth 20000 in
theorem dX6_stranger_0 : decode cX6_stranger 0 = .ok (.aload_n 0, 1) := by decide +kernel
theorem dX6_stranger_1 : decode cX6_stranger 1 = .ok (.iconst 0, 1) := by decide +kernel
theorem dX6_stranger_2 : decode cX6_stranger 2 = .ok (.putfield 120, 3) := by decide +kernel
theorem dX6_stranger_5 : decode cX6_stranger 5 = .ok (.aload_n 0, 1) := by decide +kernel
theorem dX6_stranger_6 : decode cX6_stranger 6 = .ok (.iload_n 3, 1) := by decide +kernel
theorem dX6_stranger_7 : decode cX6_stranger 7 = .ok (.iload_n 2, 1) := by decide +kernel
theorem dX6_stranger_8 : decode cX6_stranger 8 = .ok (.invokevirtual 198, 3) := by decide +kernel
theorem dX6_stranger_11 : decode cX6_stranger 11 = .ok (.ifCond .eq 37, 3) := by decide +kernel
theorem dX6_stranger_14 : decode cX6_stranger 14 = .ok (.iload_n 1, 1) := by decide +kernel
theorem dX6_stranger_15 : decode cX6_stranger 15 = .ok (.iconst 0, 1) := by decide +kernel
theorem dX6_stranger_16 : decode cX6_stranger 16 = .ok (.bipush 9, 2) := by decide +kernel
theorem dX6_stranger_18 : decode cX6_stranger 18 = .ok (.invokestatic 126, 3) := by decide +kernel
theorem dX6_stranger_21 : decode cX6_stranger 21 = .ok (.ifCond .eq 27, 3) := by decide +kernel
theorem dX6_stranger_24 : decode cX6_stranger 24 = .ok (.aload_n 0, 1) := by decide +kernel
theorem dX6_stranger_25 : decode cX6_stranger 25 = .ok (.iload_n 1, 1) := by decide +kernel
theorem dX6_stranger_26 : decode cX6_stranger 26 = .ok (.iload_n 2, 1) := by decide +kernel
theorem dX6_stranger_27 : decode cX6_stranger 27 = .ok (.invokevirtual 195, 3) := by decide +kernel
theorem dX6_stranger_30 : decode cX6_stranger 30 = .ok (.ifCond .ne 18, 3) := by decide +kernel
theorem dX6_stranger_33 : decode cX6_stranger 33 = .ok (.iload 4, 2) := by decide +kernel
theorem dX6_stranger_35 : decode cX6_stranger 35 = .ok (.iconst 0, 1) := by decide +kernel
theorem dX6_stranger_36 : decode cX6_stranger 36 = .ok (.aload_n 0, 1) := by decide +kernel
theorem dX6_stranger_37 : decode cX6_stranger 37 = .ok (.getfield 29, 3) := by decide +kernel
theorem dX6_stranger_40 : decode cX6_stranger 40 = .ok (.iload_n 2, 1) := by decide +kernel
theorem dX6_stranger_41 : decode cX6_stranger 41 = .ok (.iaload, 1) := by decide +kernel
theorem dX6_stranger_42 : decode cX6_stranger 42 = .ok (.invokestatic 126, 3) := by decide +kernel
theorem dX6_stranger_45 : decode cX6_stranger 45 = .ok (.ifCond .ne 5, 3) := by decide +kernel
theorem dX6_stranger_48 : decode cX6_stranger 48 = .ok (.iconst (-1), 1) := by decide +kernel
theorem dX6_stranger_49 : decode cX6_stranger 49 = .ok (.ireturn, 1) := by decide +kernel
theorem dX6_stranger_50 : decode cX6_stranger 50 = .ok (.aload_n 0, 1) := by decide +kernel
theorem dX6_stranger_51 : decode cX6_stranger 51 = .ok (.iload_n 1, 1) := by decide +kernel
theorem dX6_stranger_52 : decode cX6_stranger 52 = .ok (.iload_n 2, 1) := by decide +kernel
theorem dX6_stranger_53 : decode cX6_stranger 53 = .ok (.iload_n 3, 1) := by decide +kernel
theorem dX6_stranger_54 : decode cX6_stranger 54 = .ok (.iload 4, 2) := by decide +kernel
theorem dX6_stranger_56 : decode cX6_stranger 56 = .ok (.iconst 1, 1) := by decide +kernel
theorem dX6_stranger_57 : decode cX6_stranger 57 = .ok (.invokevirtual 201, 3) := by decide +kernel
theorem dX6_stranger_60 : decode cX6_stranger 60 = .ok (.ireturn, 1) := by decide +kernel
set_option maxRecDepth 20000 in
theorem dX6_age_0 : decode cX6_age 0 = .ok (.aload_n 0, 1) := by decide +kernel
theorem dX6_age_1 : decode cX6_age 1 = .ok (.getfield 130, 3) := by decide +kernel
theorem dX6_age_4 : decode cX6_age 4 = .ok (.istore_n 2, 1) := by decide +kernel
theorem dX6_age_5 : decode cX6_age 5 = .ok (.iconst 0, 1) := by decide +kernel
theorem dX6_age_6 : decode cX6_age 6 = .ok (.istore_n 3, 1) := by decide +kernel
theorem dX6_age_7 : decode cX6_age 7 = .ok (.iload_n 3, 1) := by decide +kernel
theorem dX6_age_8 : decode cX6_age 8 = .ok (.bipush 6, 2) := by decide +kernel
theorem dX6_age_10 : decode cX6_age 10 = .ok (.if_icmp .ge 68, 3) := by decide +kernel
theorem dX6_age_13 : decode cX6_age 13 = .ok (.aload_n 0, 1) := by decide +kernel
theorem dX6_age_14 : decode cX6_age 14 = .ok (.getfield 23, 3) := by decide +kernel
theorem dX6_age_17 : decode cX6_age 17 = .ok (.iload_n 1, 1) := by decide +kernel
theorem dX6_age_18 : decode cX6_age 18 = .ok (.iaload, 1) := by decide +kernel
theorem dX6_age_19 : decode cX6_age 19 = .ok (.iload_n 3, 1) := by decide +kernel
theorem dX6_age_20 : decode cX6_age 20 = .ok (.invokestatic 150, 3) := by decide +kernel
theorem dX6_age_23 : decode cX6_age 23 = .ok (.ifCond .ne 6, 3) := by decide +kernel
theorem dX6_age_26 : decode cX6_age 26 = .ok (.goto 46, 3) := by decide +kernel
theorem dX6_age_29 : decode cX6_age 29 = .ok (.bipush 6, 2) := by decide +kernel
theorem dX6_age_31 : decode cX6_age 31 = .ok (.iload_n 1, 1) := by decide +kernel
theorem dX6_age_32 : decode cX6_age 32 = .ok (.imul, 1) := by decide +kernel
theorem dX6_age_33 : decode cX6_age 33 = .ok (.iload_n 3, 1) := by decide +kernel
theorem dX6_age_34 : decode cX6_age 34 = .ok (.iadd, 1) := by decide +kernel
theorem dX6_age_35 : decode cX6_age 35 = .ok (.istore 4, 2) := by decide +kernel
theorem dX6_age_37 : decode cX6_age 37 = .ok (.iload_n 2, 1) := by decide +kernel
theorem dX6_age_38 : decode cX6_age 38 = .ok (.aload_n 0, 1) := by decide +kernel
theorem dX6_age_39 : decode cX6_age 39 = .ok (.getfield 75, 3) := by decide +kernel
theorem dX6_age_42 : decode cX6_age 42 = .ok (.iload 4, 2) := by decide +kernel
theorem dX6_age_44 : decode cX6_age 44 = .ok (.iaload, 1) := by decide +kernel
theorem dX6_age_45 : decode cX6_age 45 = .ok (.invokestatic 205, 3) := by decide +kernel
theorem dX6_age_48 : decode cX6_age 48 = .ok (.istore_n 2, 1) := by decide +kernel
theorem dX6_age_49 : decode cX6_age 49 = .ok (.aload_n 0, 1) := by decide +kernel
theorem dX6_age_50 : decode cX6_age 50 = .ok (.getfield 69, 3) := by decide +kernel
theorem dX6_age_53 : decode cX6_age 53 = .ok (.iload 4, 2) := by decide +kernel
theorem dX6_age_55 : decode cX6_age 55 = .ok (.iaload, 1) := by decide +kernel
theorem dX6_age_56 : decode cX6_age 56 = .ok (.iconst (-1), 1) := by decide +kernel
theorem dX6_age_57 : decode cX6_age 57 = .ok (.if_icmp .eq 15, 3) := by decide +kernel
theorem dX6_age_60 : decode cX6_age 60 = .ok (.iload_n 2, 1) := by decide +kernel
theorem dX6_age_61 : decode cX6_age 61 = .ok (.aload_n 0, 1) := by decide +kernel
theorem dX6_age_62 : decode cX6_age 62 = .ok (.getfield 78, 3) := by decide +kernel
theorem dX6_age_65 : decode cX6_age 65 = .ok (.iload 4, 2) := by decide +kernel
theorem dX6_age_67 : decode cX6_age 67 = .ok (.iaload, 1) := by decide +kernel
theorem dX6_age_68 : decode cX6_age 68 = .ok (.invokestatic 205, 3) := by decide +kernel
theorem dX6_age_71 : decode cX6_age 71 = .ok (.istore_n 2, 1) := by decide +kernel
theorem dX6_age_72 : decode cX6_age 72 = .ok (.iinc 3 1, 3) := by decide +kernel
theorem dX6_age_75 : decode cX6_age 75 = .ok (.goto (-68), 3) := by decide +kernel
theorem dX6_age_78 : decode cX6_age 78 = .ok (.aload_n 0, 1) := by decide +kernel
theorem dX6_age_79 : decode cX6_age 79 = .ok (.getfield 130, 3) := by decide +kernel
theorem dX6_age_82 : decode cX6_age 82 = .ok (.iload_n 2, 1) := by decide +kernel
theorem dX6_age_83 : decode cX6_age 83 = .ok (.isub, 1) := by decide +kernel
theorem dX6_age_84 : decode cX6_age 84 = .ok (.ireturn, 1) := by decide +kernel
set_option maxRecDepth 20000 in
theorem dX6_lockedOut_0 : decode cX6_lockedOut 0 = .ok (.iconst 0, 1) := by decide +kernel
theorem dX6_lockedOut_1 : decode cX6_lockedOut 1 = .ok (.istore_n 2, 1) := by decide +kernel
theorem dX6_lockedOut_2 : decode cX6_lockedOut 2 = .ok (.iconst 0, 1) := by decide +kernel
theorem dX6_lockedOut_3 : decode cX6_lockedOut 3 = .ok (.istore_n 3, 1) := by decide +kernel
theorem dX6_lockedOut_4 : decode cX6_lockedOut 4 = .ok (.iload_n 3, 1) := by decide +kernel
theorem dX6_lockedOut_5 : decode cX6_lockedOut 5 = .ok (.bipush 10, 2) := by decide +kernel
theorem dX6_lockedOut_7 : decode cX6_lockedOut 7 = .ok (.if_icmp .ge 102, 3) := by decide +kernel
theorem dX6_lockedOut_10 : decode cX6_lockedOut 10 = .ok (.aload_n 0, 1) := by decide +kernel
theorem dX6_lockedOut_11 : decode cX6_lockedOut 11 = .ok (.getfield 20, 3) := by decide +kernel
theorem dX6_lockedOut_14 : decode cX6_lockedOut 14 = .ok (.iload_n 1, 1) := by decide +kernel
theorem dX6_lockedOut_15 : decode cX6_lockedOut 15 = .ok (.iaload, 1) := by decide +kernel
theorem dX6_lockedOut_16 : decode cX6_lockedOut 16 = .ok (.iload_n 3, 1) := by decide +kernel
theorem dX6_lockedOut_17 : decode cX6_lockedOut 17 = .ok (.invokestatic 150, 3) := by decide +kernel
theorem dX6_lockedOut_20 : decode cX6_lockedOut 20 = .ok (.ifCond .ne 6, 3) := by decide +kernel
theorem dX6_lockedOut_23 : decode cX6_lockedOut 23 = .ok (.goto 80, 3) := by decide +kernel
theorem dX6_lockedOut_26 : decode cX6_lockedOut 26 = .ok (.iconst 1, 1) := by decide +kernel
theorem dX6_lockedOut_27 : decode cX6_lockedOut 27 = .ok (.istore 4, 2) := by decide +kernel
theorem dX6_lockedOut_29 : decode cX6_lockedOut 29 = .ok (.iconst 0, 1) := by decide +kernel
theorem dX6_lockedOut_30 : decode cX6_lockedOut 30 = .ok (.istore 5, 2) := by decide +kernel
theorem dX6_lockedOut_32 : decode cX6_lockedOut 32 = .ok (.iload 5, 2) := by decide +kernel
theorem dX6_lockedOut_34 : decode cX6_lockedOut 34 = .ok (.bipush 6, 2) := by decide +kernel
theorem dX6_lockedOut_36 : decode cX6_lockedOut 36 = .ok (.if_icmp .ge 56, 3) := by decide +kernel
theorem dX6_lockedOut_39 : decode cX6_lockedOut 39 = .ok (.iload 4, 2) := by decide +kernel
theorem dX6_lockedOut_41 : decode cX6_lockedOut 41 = .ok (.ifCond .eq 42, 3) := by decide +kernel
theorem dX6_lockedOut_44 : decode cX6_lockedOut 44 = .ok (.aload_n 0, 1) := by decide +kernel
theorem dX6_lockedOut_45 : decode cX6_lockedOut 45 = .ok (.getfield 23, 3) := by decide +kernel
theorem dX6_lockedOut_48 : decode cX6_lockedOut 48 = .ok (.iload_n 1, 1) := by decide +kernel
theorem dX6_lockedOut_49 : decode cX6_lockedOut 49 = .ok (.iaload, 1) := by decide +kernel
theorem dX6_lockedOut_50 : decode cX6_lockedOut 50 = .ok (.iload 5, 2) := by decide +kernel
theorem dX6_lockedOut_52 : decode cX6_lockedOut 52 = .ok (.invokestatic 150, 3) := by decide +kernel
theorem dX6_lockedOut_55 : decode cX6_lockedOut 55 = .ok (.ifCond .eq 24, 3) := by decide +kernel
theorem dX6_lockedOut_58 : decode cX6_lockedOut 58 = .ok (.aload_n 0, 1) := by decide +kernel
theorem dX6_lockedOut_59 : decode cX6_lockedOut 59 = .ok (.iload_n 1, 1) := by decide +kernel
theorem dX6_lockedOut_60 : decode cX6_lockedOut 60 = .ok (.iload 5, 2) := by decide +kernel
theorem dX6_lockedOut_62 : decode cX6_lockedOut 62 = .ok (.aload_n 0, 1) := by decide +kernel
theorem dX6_lockedOut_63 : decode cX6_lockedOut 63 = .ok (.getfield 63, 3) := by decide +kernel
theorem dX6_lockedOut_66 : decode cX6_lockedOut 66 = .ok (.bipush 10, 2) := by decide +kernel
theorem dX6_lockedOut_68 : decode cX6_lockedOut 68 = .ok (.iload_n 1, 1) := by decide +kernel
theorem dX6_lockedOut_69 : decode cX6_lockedOut 69 = .ok (.imul, 1) := by decide +kernel
theorem dX6_lockedOut_70 : decode cX6_lockedOut 70 = .ok (.iload_n 3, 1) := by decide +kernel
theorem dX6_lockedOut_71 : decode cX6_lockedOut 71 = .ok (.iadd, 1) := by decide +kernel
theorem dX6_lockedOut_72 : decode cX6_lockedOut 72 = .ok (.iaload, 1) := by decide +kernel
theorem dX6_lockedOut_73 : decode cX6_lockedOut 73 = .ok (.invokevirtual 186, 3) := by decide +kernel
theorem dX6_lockedOut_76 : decode cX6_lockedOut 76 = .ok (.ifCond .eq 7, 3) := by decide +kernel
theorem dX6_lockedOut_79 : decode cX6_lockedOut 79 = .ok (.iconst 1, 1) := by decide +kernel
theorem dX6_lockedOut_80 : decode cX6_lockedOut 80 = .ok (.goto 4, 3) := by decide +kernel
theorem dX6_lockedOut_83 : decode cX6_lockedOut 83 = .ok (.iconst 0, 1) := by decide +kernel
theorem dX6_lockedOut_84 : decode cX6_lockedOut 84 = .ok (.istore 4, 2) := by decide +kernel
theorem dX6_lockedOut_86 : decode cX6_lockedOut 86 = .ok (.iinc 5 1, 3) := by decide +kernel
theorem dX6_lockedOut_89 : decode cX6_lockedOut 89 = .ok (.goto (-57), 3) := by decide +kernel
theorem dX6_lockedOut_92 : decode cX6_lockedOut 92 = .ok (.iload 4, 2) := by decide +kernel
theorem dX6_lockedOut_94 : decode cX6_lockedOut 94 = .ok (.ifCond .ne 9, 3) := by decide +kernel
theorem dX6_lockedOut_97 : decode cX6_lockedOut 97 = .ok (.iload_n 2, 1) := by decide +kernel
theorem dX6_lockedOut_98 : decode cX6_lockedOut 98 = .ok (.iconst 1, 1) := by decide +kernel
theorem dX6_lockedOut_99 : decode cX6_lockedOut 99 = .ok (.iload_n 3, 1) := by decide +kernel
theorem dX6_lockedOut_100 : decode cX6_lockedOut 100 = .ok (.ishl, 1) := by decide +kernel
theorem dX6_lockedOut_101 : decode cX6_lockedOut 101 = .ok (.ior, 1) := by decide +kernel
theorem dX6_lockedOut_102 : decode cX6_lockedOut 102 = .ok (.istore_n 2, 1) := by decide +kernel
theorem dX6_lockedOut_103 : decode cX6_lockedOut 103 = .ok (.iinc 3 1, 3) := by decide +kernel
theorem dX6_lockedOut_106 : decode cX6_lockedOut 106 = .ok (.goto (-102), 3) := by decide +kernel
theorem dX6_lockedOut_109 : decode cX6_lockedOut 109 = .ok (.iload_n 2, 1) := by decide +kernel
theorem dX6_lockedOut_110 : decode cX6_lockedOut 110 = .ok (.ireturn, 1) := by decide +kernel
set_option maxRecDepth 20000 in
theorem dX6_told_0 : decode cX6_told 0 = .ok (.aload_n 0, 1) := by decide +kernel
theorem dX6_told_1 : decode cX6_told 1 = .ok (.iconst 0, 1) := by decide +kernel
theorem dX6_told_2 : decode cX6_told 2 = .ok (.putfield 120, 3) := by decide +kernel
theorem dX6_told_5 : decode cX6_told 5 = .ok (.aload_n 0, 1) := by decide +kernel
theorem dX6_told_6 : decode cX6_told 6 = .ok (.iload_n 1, 1) := by decide +kernel
theorem dX6_told_7 : decode cX6_told 7 = .ok (.invokevirtual 133, 3) := by decide +kernel
theorem dX6_told_10 : decode cX6_told 10 = .ok (.ifCond .ne 5, 3) := by decide +kernel
theorem dX6_told_13 : decode cX6_told 13 = .ok (.iconst (-1), 1) := by decide +kernel
theorem dX6_told_14 : decode cX6_told 14 = .ok (.ireturn, 1) := by decide +kernel
theorem dX6_told_15 : decode cX6_told 15 = .ok (.iload_n 2, 1) := by decide +kernel
theorem dX6_told_16 : decode cX6_told 16 = .ok (.tableswitch 172 0 11 #[64, 71, 78, 85, 92, 99, 106, 113, 119, 139, 145, 152], 64) := by decide +kernel
theorem dX6_told_80 : decode cX6_told 80 = .ok (.aload_n 0, 1) := by decide +kernel
theorem dX6_told_81 : decode cX6_told 81 = .ok (.getfield 16, 3) := by decide +kernel
theorem dX6_told_84 : decode cX6_told 84 = .ok (.iload_n 1, 1) := by decide +kernel
theorem dX6_told_85 : decode cX6_told 85 = .ok (.iaload, 1) := by decide +kernel
theorem dX6_told_86 : decode cX6_told 86 = .ok (.ireturn, 1) := by decide +kernel
theorem dX6_told_87 : decode cX6_told 87 = .ok (.aload_n 0, 1) := by decide +kernel
theorem dX6_told_88 : decode cX6_told 88 = .ok (.getfield 20, 3) := by decide +kernel
theorem dX6_told_91 : decode cX6_told 91 = .ok (.iload_n 1, 1) := by decide +kernel
theorem dX6_told_92 : decode cX6_told 92 = .ok (.iaload, 1) := by decide +kernel
theorem dX6_told_93 : decode cX6_told 93 = .ok (.ireturn, 1) := by decide +kernel
theorem dX6_told_94 : decode cX6_told 94 = .ok (.aload_n 0, 1) := by decide +kernel
theorem dX6_told_95 : decode cX6_told 95 = .ok (.getfield 23, 3) := by decide +kernel
theorem dX6_told_98 : decode cX6_told 98 = .ok (.iload_n 1, 1) := by decide +kernel
theorem dX6_told_99 : decode cX6_told 99 = .ok (.iaload, 1) := by decide +kernel
theorem dX6_told_100 : decode cX6_told 100 = .ok (.ireturn, 1) := by decide +kernel
theorem dX6_told_101 : decode cX6_told 101 = .ok (.aload_n 0, 1) := by decide +kernel
theorem dX6_told_102 : decode cX6_told 102 = .ok (.getfield 26, 3) := by decide +kernel
theorem dX6_told_105 : decode cX6_told 105 = .ok (.iload_n 1, 1) := by decide +kernel
theorem dX6_told_106 : decode cX6_told 106 = .ok (.iaload, 1) := by decide +kernel
theorem dX6_told_107 : decode cX6_told 107 = .ok (.ireturn, 1) := by decide +kernel
theorem dX6_told_108 : decode cX6_told 108 = .ok (.aload_n 0, 1) := by decide +kernel
theorem dX6_told_109 : decode cX6_told 109 = .ok (.getfield 29, 3) := by decide +kernel
theorem dX6_told_112 : decode cX6_told 112 = .ok (.iload_n 1, 1) := by decide +kernel
theorem dX6_told_113 : decode cX6_told 113 = .ok (.iaload, 1) := by decide +kernel
theorem dX6_told_114 : decode cX6_told 114 = .ok (.ireturn, 1) := by decide +kernel
theorem dX6_told_115 : decode cX6_told 115 = .ok (.aload_n 0, 1) := by decide +kernel
theorem dX6_told_116 : decode cX6_told 116 = .ok (.getfield 35, 3) := by decide +kernel
theorem dX6_told_119 : decode cX6_told 119 = .ok (.iload_n 1, 1) := by decide +kernel
theorem dX6_told_120 : decode cX6_told 120 = .ok (.iaload, 1) := by decide +kernel
theorem dX6_told_121 : decode cX6_told 121 = .ok (.ireturn, 1) := by decide +kernel
theorem dX6_told_122 : decode cX6_told 122 = .ok (.aload_n 0, 1) := by decide +kernel
theorem dX6_told_123 : decode cX6_told 123 = .ok (.getfield 32, 3) := by decide +kernel
theorem dX6_told_126 : decode cX6_told 126 = .ok (.iload_n 1, 1) := by decide +kernel
theorem dX6_told_127 : decode cX6_told 127 = .ok (.iaload, 1) := by decide +kernel
theorem dX6_told_128 : decode cX6_told 128 = .ok (.ireturn, 1) := by decide +kernel
theorem dX6_told_129 : decode cX6_told 129 = .ok (.aload_n 0, 1) := by decide +kernel
theorem dX6_told_130 : decode cX6_told 130 = .ok (.iload_n 1, 1) := by decide +kernel
theorem dX6_told_131 : decode cX6_told 131 = .ok (.invokevirtual 208, 3) := by decide +kernel
theorem dX6_told_134 : decode cX6_told 134 = .ok (.ireturn, 1) := by decide +kernel
theorem dX6_told_135 : decode cX6_told 135 = .ok (.aload_n 0, 1) := by decide +kernel
theorem dX6_told_136 : decode cX6_told 136 = .ok (.getfield 35, 3) := by decide +kernel
theorem dX6_told_139 : decode cX6_told 139 = .ok (.iload_n 1, 1) := by decide +kernel
theorem dX6_told_140 : decode cX6_told 140 = .ok (.iaload, 1) := by decide +kernel
theorem dX6_told_141 : decode cX6_told 141 = .ok (.ifCond .ne 7, 3) := by decide +kernel
theorem dX6_told_144 : decode cX6_told 144 = .ok (.iconst 0, 1) := by decide +kernel
theorem dX6_told_145 : decode cX6_told 145 = .ok (.goto 9, 3) := by decide +kernel
theorem dX6_told_148 : decode cX6_told 148 = .ok (.aload_n 0, 1) := by decide +kernel
theorem dX6_told_149 : decode cX6_told 149 = .ok (.getfield 41, 3) := by decide +kernel
theorem dX6_told_152 : decode cX6_told 152 = .ok (.iload_n 1, 1) := by decide +kernel
theorem dX6_told_153 : decode cX6_told 153 = .ok (.iaload, 1) := by decide +kernel
theorem dX6_told_154 : decode cX6_told 154 = .ok (.ireturn, 1) := by decide +kernel
theorem dX6_told_155 : decode cX6_told 155 = .ok (.aload_n 0, 1) := by decide +kernel
theorem dX6_told_156 : decode cX6_told 156 = .ok (.iload_n 1, 1) := by decide +kernel
theorem dX6_told_157 : decode cX6_told 157 = .ok (.invokevirtual 211, 3) := by decide +kernel
theorem dX6_told_160 : decode cX6_told 160 = .ok (.ireturn, 1) := by decide +kernel
theorem dX6_told_161 : decode cX6_told 161 = .ok (.aload_n 0, 1) := by decide +kernel
theorem dX6_told_162 : decode cX6_told 162 = .ok (.getfield 47, 3) := by decide +kernel
theorem dX6_told_165 : decode cX6_told 165 = .ok (.iload_n 1, 1) := by decide +kernel
theorem dX6_told_166 : decode cX6_told 166 = .ok (.iaload, 1) := by decide +kernel
theorem dX6_told_167 : decode cX6_told 167 = .ok (.ireturn, 1) := by decide +kernel
theorem dX6_told_168 : decode cX6_told 168 = .ok (.aload_n 0, 1) := by decide +kernel
theorem dX6_told_169 : decode cX6_told 169 = .ok (.getfield 35, 3) := by decide +kernel
theorem dX6_told_172 : decode cX6_told 172 = .ok (.iload_n 1, 1) := by decide +kernel
theorem dX6_told_173 : decode cX6_told 173 = .ok (.iaload, 1) := by decide +kernel
theorem dX6_told_174 : decode cX6_told 174 = .ok (.ifCond .ne 7, 3) := by decide +kernel
theorem dX6_told_177 : decode cX6_told 177 = .ok (.iconst (-1), 1) := by decide +kernel
theorem dX6_told_178 : decode cX6_told 178 = .ok (.goto 9, 3) := by decide +kernel
theorem dX6_told_181 : decode cX6_told 181 = .ok (.aload_n 0, 1) := by decide +kernel
theorem dX6_told_182 : decode cX6_told 182 = .ok (.getfield 38, 3) := by decide +kernel
theorem dX6_told_185 : decode cX6_told 185 = .ok (.iload_n 1, 1) := by decide +kernel
theorem dX6_told_186 : decode cX6_told 186 = .ok (.iaload, 1) := by decide +kernel
theorem dX6_told_187 : decode cX6_told 187 = .ok (.ireturn, 1) := by decide +kernel
theorem dX6_told_188 : decode cX6_told 188 = .ok (.iconst (-1), 1) := by decide +kernel
theorem dX6_told_189 : decode cX6_told 189 = .ok (.ireturn, 1) := by decide +kernel
set_option maxRecDepth 20000 in
theorem dX6_has_0 : decode cX6_has 0 = .ok (.aload_n 0, 1) := by decide +kernel
theorem dX6_has_1 : decode cX6_has 1 = .ok (.iconst 0, 1) := by decide +kernel
theorem dX6_has_2 : decode cX6_has 2 = .ok (.putfield 120, 3) := by decide +kernel
theorem dX6_has_5 : decode cX6_has 5 = .ok (.aload_n 0, 1) := by decide +kernel
theorem dX6_has_6 : decode cX6_has 6 = .ok (.iload_n 1, 1) := by decide +kernel
theorem dX6_has_7 : decode cX6_has 7 = .ok (.iload_n 2, 1) := by decide +kernel
theorem dX6_has_8 : decode cX6_has 8 = .ok (.invokevirtual 195, 3) := by decide +kernel
theorem dX6_has_11 : decode cX6_has 11 = .ok (.ifCond .eq 17, 3) := by decide +kernel
theorem dX6_has_14 : decode cX6_has 14 = .ok (.aload_n 0, 1) := by decide +kernel
theorem dX6_has_15 : decode cX6_has 15 = .ok (.getfield 63, 3) := by decide +kernel
theorem dX6_has_18 : decode cX6_has 18 = .ok (.bipush 10, 2) := by decide +kernel
theorem dX6_has_20 : decode cX6_has 20 = .ok (.iload_n 2, 1) := by decide +kernel
theorem dX6_has_21 : decode cX6_has 21 = .ok (.imul, 1) := by decide +kernel
theorem dX6_has_22 : decode cX6_has 22 = .ok (.iload_n 1, 1) := by decide +kernel
theorem dX6_has_23 : decode cX6_has 23 = .ok (.iadd, 1) := by decide +kernel
theorem dX6_has_24 : decode cX6_has 24 = .ok (.iaload, 1) := by decide +kernel
theorem dX6_has_25 : decode cX6_has 25 = .ok (.goto 4, 3) := by decide +kernel
theorem dX6_has_28 : decode cX6_has 28 = .ok (.iconst (-1), 1) := by decide +kernel
theorem dX6_has_29 : decode cX6_has 29 = .ok (.ireturn, 1) := by decide +kernel
set_option maxRecDepth 20000 in
theorem dX6_good_0 : decode cX6_good 0 = .ok (.aload_n 0, 1) := by decide +kernel
theorem dX6_good_1 : decode cX6_good 1 = .ok (.iconst 0, 1) := by decide +kernel
theorem dX6_good_2 : decode cX6_good 2 = .ok (.putfield 120, 3) := by decide +kernel
theorem dX6_good_5 : decode cX6_good 5 = .ok (.aload_n 0, 1) := by decide +kernel
theorem dX6_good_6 : decode cX6_good 6 = .ok (.iload_n 1, 1) := by decide +kernel
theorem dX6_good_7 : decode cX6_good 7 = .ok (.iload_n 2, 1) := by decide +kernel
theorem dX6_good_8 : decode cX6_good 8 = .ok (.invokevirtual 198, 3) := by decide +kernel
theorem dX6_good_11 : decode cX6_good 11 = .ok (.ifCond .ne 5, 3) := by decide +kernel
theorem dX6_good_14 : decode cX6_good 14 = .ok (.iconst (-1), 1) := by decide +kernel
theorem dX6_good_15 : decode cX6_good 15 = .ok (.ireturn, 1) := by decide +kernel
theorem dX6_good_16 : decode cX6_good 16 = .ok (.iload_n 3, 1) := by decide +kernel
theorem dX6_good_17 : decode cX6_good 17 = .ok (.ifCond .lt 17, 3) := by decide +kernel
theorem dX6_good_20 : decode cX6_good 20 = .ok (.aload_n 0, 1) := by decide +kernel
theorem dX6_good_21 : decode cX6_good 21 = .ok (.iload_n 2, 1) := by decide +kernel
theorem dX6_good_22 : decode cX6_good 22 = .ok (.iload_n 1, 1) := by decide +kernel
theorem dX6_good_23 : decode cX6_good 23 = .ok (.iload_n 3, 1) := by decide +kernel
theorem dX6_good_24 : decode cX6_good 24 = .ok (.invokevirtual 186, 3) := by decide +kernel
theorem dX6_good_27 : decode cX6_good 27 = .ok (.ifCond .eq 7, 3) := by decide +kernel
theorem dX6_good_30 : decode cX6_good 30 = .ok (.iconst 1, 1) := by decide +kernel
theorem dX6_good_31 : decode cX6_good 31 = .ok (.goto 4, 3) := by decide +kernel
theorem dX6_good_34 : decode cX6_good 34 = .ok (.iconst 0, 1) := by decide +kernel
theorem dX6_good_35 : decode cX6_good 35 = .ok (.ireturn, 1) := by decide +kernel
set_option maxRecDepth 20000 in
theorem dX6_turned_0 : decode cX6_turned 0 = .ok (.aload_n 0, 1) := by decide +kernel
theorem dX6_turned_1 : decode cX6_turned 1 = .ok (.iload_n 1, 1) := by decide +kernel
theorem dX6_turned_2 : decode cX6_turned 2 = .ok (.ifCond .lt 27, 3) := by decide +kernel
theorem dX6_turned_5 : decode cX6_turned 5 = .ok (.iload_n 1, 1) := by decide +kernel
theorem dX6_turned_6 : decode cX6_turned 6 = .ok (.aload_n 0, 1) := by decide +kernel
theorem dX6_turned_7 : decode cX6_turned 7 = .ok (.getfield 179, 3) := by decide +kernel
theorem dX6_turned_10 : decode cX6_turned 10 = .ok (.if_icmp .ge 19, 3) := by decide +kernel
theorem dX6_turned_13 : decode cX6_turned 13 = .ok (.iload_n 1, 1) := by decide +kernel
theorem dX6_turned_14 : decode cX6_turned 14 = .ok (.sipush 500, 3) := by decide +kernel
theorem dX6_turned_17 : decode cX6_turned 17 = .ok (.if_icmp .ge 12, 3) := by decide +kernel
theorem dX6_turned_20 : decode cX6_turned 20 = .ok (.iload_n 2, 1) := by decide +kernel
theorem dX6_turned_21 : decode cX6_turned 21 = .ok (.iconst 0, 1) := by decide +kernel
theorem dX6_turned_22 : decode cX6_turned 22 = .ok (.iconst 4, 1) := by decide +kernel
theorem dX6_turned_23 : decode cX6_turned 23 = .ok (.invokestatic 126, 3) := by decide +kernel
theorem dX6_turned_26 : decode cX6_turned 26 = .ok (.ifCond .ne 7, 3) := by decide +kernel
theorem dX6_turned_29 : decode cX6_turned 29 = .ok (.iconst 1, 1) := by decide +kernel
theorem dX6_turned_30 : decode cX6_turned 30 = .ok (.goto 4, 3) := by decide +kernel
theorem dX6_turned_33 : decode cX6_turned 33 = .ok (.iconst 0, 1) := by decide +kernel
theorem dX6_turned_34 : decode cX6_turned 34 = .ok (.putfield 120, 3) := by decide +kernel
theorem dX6_turned_37 : decode cX6_turned 37 = .ok (.aload_n 0, 1) := by decide +kernel
theorem dX6_turned_38 : decode cX6_turned 38 = .ok (.getfield 120, 3) := by decide +kernel
theorem dX6_turned_41 : decode cX6_turned 41 = .ok (.ifCond .le 5, 3) := by decide +kernel
theorem dX6_turned_44 : decode cX6_turned 44 = .ok (.iconst 0, 1) := by decide +kernel
theorem dX6_turned_45 : decode cX6_turned 45 = .ok (.ireturn, 1) := by decide +kernel
theorem dX6_turned_46 : decode cX6_turned 46 = .ok (.iload_n 2, 1) := by decide +kernel
theorem dX6_turned_47 : decode cX6_turned 47 = .ok (.tableswitch 57 0 3 #[29, 36, 43, 50], 29) := by decide +kernel
theorem dX6_turned_76 : decode cX6_turned 76 = .ok (.aload_n 0, 1) := by decide +kernel
theorem dX6_turned_77 : decode cX6_turned 77 = .ok (.getfield 99, 3) := by decide +kernel
theorem dX6_turned_80 : decode cX6_turned 80 = .ok (.iload_n 1, 1) := by decide +kernel
theorem dX6_turned_81 : decode cX6_turned 81 = .ok (.iaload, 1) := by decide +kernel
theorem dX6_turned_82 : decode cX6_turned 82 = .ok (.ireturn, 1) := by decide +kernel
theorem dX6_turned_83 : decode cX6_turned 83 = .ok (.aload_n 0, 1) := by decide +kernel
theorem dX6_turned_84 : decode cX6_turned 84 = .ok (.getfield 102, 3) := by decide +kernel
theorem dX6_turned_87 : decode cX6_turned 87 = .ok (.iload_n 1, 1) := by decide +kernel
theorem dX6_turned_88 : decode cX6_turned 88 = .ok (.iaload, 1) := by decide +kernel
theorem dX6_turned_89 : decode cX6_turned 89 = .ok (.ireturn, 1) := by decide +kernel
theorem dX6_turned_90 : decode cX6_turned 90 = .ok (.aload_n 0, 1) := by decide +kernel
theorem dX6_turned_91 : decode cX6_turned 91 = .ok (.getfield 105, 3) := by decide +kernel
theorem dX6_turned_94 : decode cX6_turned 94 = .ok (.iload_n 1, 1) := by decide +kernel
theorem dX6_turned_95 : decode cX6_turned 95 = .ok (.iaload, 1) := by decide +kernel
theorem dX6_turned_96 : decode cX6_turned 96 = .ok (.ireturn, 1) := by decide +kernel
theorem dX6_turned_97 : decode cX6_turned 97 = .ok (.aload_n 0, 1) := by decide +kernel
theorem dX6_turned_98 : decode cX6_turned 98 = .ok (.getfield 108, 3) := by decide +kernel
theorem dX6_turned_101 : decode cX6_turned 101 = .ok (.iload_n 1, 1) := by decide +kernel
theorem dX6_turned_102 : decode cX6_turned 102 = .ok (.iaload, 1) := by decide +kernel
theorem dX6_turned_103 : decode cX6_turned 103 = .ok (.ireturn, 1) := by decide +kernel
theorem dX6_turned_104 : decode cX6_turned 104 = .ok (.aload_n 0, 1) := by decide +kernel
theorem dX6_turned_105 : decode cX6_turned 105 = .ok (.getfield 111, 3) := by decide +kernel
theorem dX6_turned_108 : decode cX6_turned 108 = .ok (.iload_n 1, 1) := by decide +kernel
theorem dX6_turned_109 : decode cX6_turned 109 = .ok (.baload, 1) := by decide +kernel
theorem dX6_turned_110 : decode cX6_turned 110 = .ok (.ifCond .eq 7, 3) := by decide +kernel
theorem dX6_turned_113 : decode cX6_turned 113 = .ok (.iconst 1, 1) := by decide +kernel
theorem dX6_turned_114 : decode cX6_turned 114 = .ok (.goto 4, 3) := by decide +kernel
theorem dX6_turned_117 : decode cX6_turned 117 = .ok (.iconst 0, 1) := by decide +kernel
theorem dX6_turned_118 : decode cX6_turned 118 = .ok (.ireturn, 1) := by decide +kernel
set_option maxRecDepth 20000 in
theorem dX6_count_0 : decode cX6_count 0 = .ok (.aload_n 0, 1) := by decide +kernel
theorem dX6_count_1 : decode cX6_count 1 = .ok (.iconst 0, 1) := by decide +kernel
theorem dX6_count_2 : decode cX6_count 2 = .ok (.putfield 120, 3) := by decide +kernel
theorem dX6_count_5 : decode cX6_count 5 = .ok (.iconst 0, 1) := by decide +kernel
theorem dX6_count_6 : decode cX6_count 6 = .ok (.istore_n 2, 1) := by decide +kernel
theorem dX6_count_7 : decode cX6_count 7 = .ok (.iload_n 1, 1) := by decide +kernel
theorem dX6_count_8 : decode cX6_count 8 = .ok (.tableswitch 153 0 7 #[48, 53, 58, 63, 98, 103, 108, 113], 48) := by decide +kernel
theorem dX6_count_56 : decode cX6_count 56 = .ok (.aload_n 0, 1) := by decide +kernel
theorem dX6_count_57 : decode cX6_count 57 = .ok (.getfield 130, 3) := by decide +kernel
theorem dX6_count_60 : decode cX6_count 60 = .ok (.ireturn, 1) := by decide +kernel
theorem dX6_count_61 : decode cX6_count 61 = .ok (.aload_n 0, 1) := by decide +kernel
theorem dX6_count_62 : decode cX6_count 62 = .ok (.getfield 123, 3) := by decide +kernel
theorem dX6_count_65 : decode cX6_count 65 = .ok (.ireturn, 1) := by decide +kernel
theorem dX6_count_66 : decode cX6_count 66 = .ok (.aload_n 0, 1) := by decide +kernel
theorem dX6_count_67 : decode cX6_count 67 = .ok (.getfield 179, 3) := by decide +kernel
theorem dX6_count_70 : decode cX6_count 70 = .ok (.ireturn, 1) := by decide +kernel
theorem dX6_count_71 : decode cX6_count 71 = .ok (.iconst 0, 1) := by decide +kernel
theorem dX6_count_72 : decode cX6_count 72 = .ok (.istore_n 3, 1) := by decide +kernel
theorem dX6_count_73 : decode cX6_count 73 = .ok (.iload_n 3, 1) := by decide +kernel
theorem dX6_count_74 : decode cX6_count 74 = .ok (.aload_n 0, 1) := by decide +kernel
theorem dX6_count_75 : decode cX6_count 75 = .ok (.getfield 123, 3) := by decide +kernel
theorem dX6_count_78 : decode cX6_count 78 = .ok (.if_icmp .ge 26, 3) := by decide +kernel
theorem dX6_count_81 : decode cX6_count 81 = .ok (.iload_n 2, 1) := by decide +kernel
theorem dX6_count_82 : decode cX6_count 82 = .ok (.aload_n 0, 1) := by decide +kernel
theorem dX6_count_83 : decode cX6_count 83 = .ok (.getfield 35, 3) := by decide +kernel
theorem dX6_count_86 : decode cX6_count 86 = .ok (.iload_n 3, 1) := by decide +kernel
theorem dX6_count_87 : decode cX6_count 87 = .ok (.iaload, 1) := by decide +kernel
theorem dX6_count_88 : decode cX6_count 88 = .ok (.ifCond .eq 7, 3) := by decide +kernel
theorem dX6_count_91 : decode cX6_count 91 = .ok (.iconst 1, 1) := by decide +kernel
theorem dX6_count_92 : decode cX6_count 92 = .ok (.goto 4, 3) := by decide +kernel
theorem dX6_count_95 : decode cX6_count 95 = .ok (.iconst 0, 1) := by decide +kernel
theorem dX6_count_96 : decode cX6_count 96 = .ok (.iadd, 1) := by decide +kernel
theorem dX6_count_97 : decode cX6_count 97 = .ok (.istore_n 2, 1) := by decide +kernel
theorem dX6_count_98 : decode cX6_count 98 = .ok (.iinc 3 1, 3) := by decide +kernel
theorem dX6_count_101 : decode cX6_count 101 = .ok (.goto (-28), 3) := by decide +kernel
theorem dX6_count_104 : decode cX6_count 104 = .ok (.iload_n 2, 1) := by decide +kernel
theorem dX6_count_105 : decode cX6_count 105 = .ok (.ireturn, 1) := by decide +kernel
theorem dX6_count_106 : decode cX6_count 106 = .ok (.aload_n 0, 1) := by decide +kernel
theorem dX6_count_107 : decode cX6_count 107 = .ok (.getfield 141, 3) := by decide +kernel
theorem dX6_count_110 : decode cX6_count 110 = .ok (.ireturn, 1) := by decide +kernel
theorem dX6_count_111 : decode cX6_count 111 = .ok (.aload_n 0, 1) := by decide +kernel
theorem dX6_count_112 : decode cX6_count 112 = .ok (.getfield 192, 3) := by decide +kernel
theorem dX6_count_115 : decode cX6_count 115 = .ok (.ireturn, 1) := by decide +kernel
theorem dX6_count_116 : decode cX6_count 116 = .ok (.aload_n 0, 1) := by decide +kernel
theorem dX6_count_117 : decode cX6_count 117 = .ok (.getfield 189, 3) := by decide +kernel
theorem dX6_count_120 : decode cX6_count 120 = .ok (.ireturn, 1) := by decide +kernel
theorem dX6_count_121 : decode cX6_count 121 = .ok (.iconst 0, 1) := by decide +kernel
theorem dX6_count_122 : decode cX6_count 122 = .ok (.istore_n 3, 1) := by decide +kernel
theorem dX6_count_123 : decode cX6_count 123 = .ok (.iload_n 3, 1) := by decide +kernel
theorem dX6_count_124 : decode cX6_count 124 = .ok (.aload_n 0, 1) := by decide +kernel
theorem dX6_count_125 : decode cX6_count 125 = .ok (.getfield 123, 3) := by decide +kernel
theorem dX6_count_128 : decode cX6_count 128 = .ok (.if_icmp .ge 31, 3) := by decide +kernel
theorem dX6_count_131 : decode cX6_count 131 = .ok (.iload_n 2, 1) := by decide +kernel
theorem dX6_count_132 : decode cX6_count 132 = .ok (.aload_n 0, 1) := by decide +kernel
theorem dX6_count_133 : decode cX6_count 133 = .ok (.iload_n 3, 1) := by decide +kernel
theorem dX6_count_134 : decode cX6_count 134 = .ok (.invokevirtual 208, 3) := by decide +kernel
theorem dX6_count_137 : decode cX6_count 137 = .ok (.aload_n 0, 1) := by decide +kernel
theorem dX6_count_138 : decode cX6_count 138 = .ok (.getfield 26, 3) := by decide +kernel
theorem dX6_count_141 : decode cX6_count 141 = .ok (.iload_n 3, 1) := by decide +kernel
theorem dX6_count_142 : decode cX6_count 142 = .ok (.iaload, 1) := by decide +kernel
theorem dX6_count_143 : decode cX6_count 143 = .ok (.if_icmp .le 7, 3) := by decide +kernel
theorem dX6_count_146 : decode cX6_count 146 = .ok (.iconst 1, 1) := by decide +kernel
theorem dX6_count_147 : decode cX6_count 147 = .ok (.goto 4, 3) := by decide +kernel
theorem dX6_count_150 : decode cX6_count 150 = .ok (.iconst 0, 1) := by decide +kernel
theorem dX6_count_151 : decode cX6_count 151 = .ok (.iadd, 1) := by decide +kernel
theorem dX6_count_152 : decode cX6_count 152 = .ok (.istore_n 2, 1) := by decide +kernel
theorem dX6_count_153 : decode cX6_count 153 = .ok (.iinc 3 1, 3) := by decide +kernel
theorem dX6_count_156 : decode cX6_count 156 = .ok (.goto (-33), 3) := by decide +kernel
theorem dX6_count_159 : decode cX6_count 159 = .ok (.iload_n 2, 1) := by decide +kernel
theorem dX6_count_160 : decode cX6_count 160 = .ok (.ireturn, 1) := by decide +kernel
theorem dX6_count_161 : decode cX6_count 161 = .ok (.iconst (-1), 1) := by decide +kernel
theorem dX6_count_162 : decode cX6_count 162 = .ok (.ireturn, 1) := by decide +kernel
theorem dJ6_bitCount_0f7a4_0 : decode cJ6_bitCount_0f7a4 0 = .ok (.iload_n 0, 1) := by decide +kernel
theorem dJ6_bitCount_0f7a4_1 : decode cJ6_bitCount_0f7a4 1 = .ok (.iload_n 0, 1) := by decide +kernel
theorem dJ6_bitCount_0f7a4_2 : decode cJ6_bitCount_0f7a4 2 = .ok (.iconst 1, 1) := by decide +kernel
theorem dJ6_bitCount_0f7a4_3 : decode cJ6_bitCount_0f7a4 3 = .ok (.iushr, 1) := by decide +kernel
theorem dJ6_bitCount_0f7a4_4 : decode cJ6_bitCount_0f7a4 4 = .ok (.ldc_w 265, 3) := by decide +kernel
theorem dJ6_bitCount_0f7a4_7 : decode cJ6_bitCount_0f7a4 7 = .ok (.iand, 1) := by decide +kernel
theorem dJ6_bitCount_0f7a4_8 : decode cJ6_bitCount_0f7a4 8 = .ok (.isub, 1) := by decide +kernel
theorem dJ6_bitCount_0f7a4_9 : decode cJ6_bitCount_0f7a4 9 = .ok (.istore_n 0, 1) := by decide +kernel
theorem dJ6_bitCount_0f7a4_10 : decode cJ6_bitCount_0f7a4 10 = .ok (.iload_n 0, 1) := by decide +kernel
theorem dJ6_bitCount_0f7a4_11 : decode cJ6_bitCount_0f7a4 11 = .ok (.ldc_w 266, 3) := by decide +kernel
theorem dJ6_bitCount_0f7a4_14 : decode cJ6_bitCount_0f7a4 14 = .ok (.iand, 1) := by decide +kernel
theorem dJ6_bitCount_0f7a4_15 : decode cJ6_bitCount_0f7a4 15 = .ok (.iload_n 0, 1) := by decide +kernel
theorem dJ6_bitCount_0f7a4_16 : decode cJ6_bitCount_0f7a4 16 = .ok (.iconst 2, 1) := by decide +kernel
theorem dJ6_bitCount_0f7a4_17 : decode cJ6_bitCount_0f7a4 17 = .ok (.iushr, 1) := by decide +kernel
theorem dJ6_bitCount_0f7a4_18 : decode cJ6_bitCount_0f7a4 18 = .ok (.ldc_w 266, 3) := by decide +kernel
theorem dJ6_bitCount_0f7a4_21 : decode cJ6_bitCount_0f7a4 21 = .ok (.iand, 1) := by decide +kernel
theorem dJ6_bitCount_0f7a4_22 : decode cJ6_bitCount_0f7a4 22 = .ok (.iadd, 1) := by decide +kernel
theorem dJ6_bitCount_0f7a4_23 : decode cJ6_bitCount_0f7a4 23 = .ok (.istore_n 0, 1) := by decide +kernel
theorem dJ6_bitCount_0f7a4_24 : decode cJ6_bitCount_0f7a4 24 = .ok (.iload_n 0, 1) := by decide +kernel
theorem dJ6_bitCount_0f7a4_25 : decode cJ6_bitCount_0f7a4 25 = .ok (.iload_n 0, 1) := by decide +kernel
theorem dJ6_bitCount_0f7a4_26 : decode cJ6_bitCount_0f7a4 26 = .ok (.iconst 4, 1) := by decide +kernel
theorem dJ6_bitCount_0f7a4_27 : decode cJ6_bitCount_0f7a4 27 = .ok (.iushr, 1) := by decide +kernel
theorem dJ6_bitCount_0f7a4_28 : decode cJ6_bitCount_0f7a4 28 = .ok (.iadd, 1) := by decide +kernel
theorem dJ6_bitCount_0f7a4_29 : decode cJ6_bitCount_0f7a4 29 = .ok (.ldc_w 267, 3) := by decide +kernel
theorem dJ6_bitCount_0f7a4_32 : decode cJ6_bitCount_0f7a4 32 = .ok (.iand, 1) := by decide +kernel
theorem dJ6_bitCount_0f7a4_33 : decode cJ6_bitCount_0f7a4 33 = .ok (.istore_n 0, 1) := by decide +kernel
theorem dJ6_bitCount_0f7a4_34 : decode cJ6_bitCount_0f7a4 34 = .ok (.iload_n 0, 1) := by decide +kernel
theorem dJ6_bitCount_0f7a4_35 : decode cJ6_bitCount_0f7a4 35 = .ok (.iload_n 0, 1) := by decide +kernel
theorem dJ6_bitCount_0f7a4_36 : decode cJ6_bitCount_0f7a4 36 = .ok (.bipush 8, 2) := by decide +kernel
theorem dJ6_bitCount_0f7a4_38 : decode cJ6_bitCount_0f7a4 38 = .ok (.iushr, 1) := by decide +kernel
theorem dJ6_bitCount_0f7a4_39 : decode cJ6_bitCount_0f7a4 39 = .ok (.iadd, 1) := by decide +kernel
theorem dJ6_bitCount_0f7a4_40 : decode cJ6_bitCount_0f7a4 40 = .ok (.istore_n 0, 1) := by decide +kernel
theorem dJ6_bitCount_0f7a4_41 : decode cJ6_bitCount_0f7a4 41 = .ok (.iload_n 0, 1) := by decide +kernel
theorem dJ6_bitCount_0f7a4_42 : decode cJ6_bitCount_0f7a4 42 = .ok (.iload_n 0, 1) := by decide +kernel
theorem dJ6_bitCount_0f7a4_43 : decode cJ6_bitCount_0f7a4 43 = .ok (.bipush 16, 2) := by decide +kernel
theorem dJ6_bitCount_0f7a4_45 : decode cJ6_bitCount_0f7a4 45 = .ok (.iushr, 1) := by decide +kernel
theorem dJ6_bitCount_0f7a4_46 : decode cJ6_bitCount_0f7a4 46 = .ok (.iadd, 1) := by decide +kernel
theorem dJ6_bitCount_0f7a4_47 : decode cJ6_bitCount_0f7a4 47 = .ok (.istore_n 0, 1) := by decide +kernel
theorem dJ6_bitCount_0f7a4_48 : decode cJ6_bitCount_0f7a4 48 = .ok (.iload_n 0, 1) := by decide +kernel
theorem dJ6_bitCount_0f7a4_49 : decode cJ6_bitCount_0f7a4 49 = .ok (.bipush 63, 2) := by decide +kernel
theorem dJ6_bitCount_0f7a4_51 : decode cJ6_bitCount_0f7a4 51 = .ok (.iand, 1) := by decide +kernel
theorem dJ6_bitCount_0f7a4_52 : decode cJ6_bitCount_0f7a4 52 = .ok (.ireturn, 1) := by decide +kernel
theorem dJ9_max_7cf53_0 : decode cJ9_max_7cf53 0 = .ok (.iload_n 0, 1) := by decide +kernel
theorem dJ9_max_7cf53_1 : decode cJ9_max_7cf53 1 = .ok (.iload_n 1, 1) := by decide +kernel
theorem dJ9_max_7cf53_2 : decode cJ9_max_7cf53 2 = .ok (.if_icmp .lt 7, 3) := by decide +kernel
theorem dJ9_max_7cf53_5 : decode cJ9_max_7cf53 5 = .ok (.iload_n 0, 1) := by decide +kernel
theorem dJ9_max_7cf53_6 : decode cJ9_max_7cf53 6 = .ok (.goto 4, 3) := by decide +kernel
theorem dJ9_max_7cf53_9 : decode cJ9_max_7cf53 9 = .ok (.iload_n 1, 1) := by decide +kernel
theorem dJ9_max_7cf53_10 : decode cJ9_max_7cf53 10 = .ok (.ireturn, 1) := by decide +kernel
theorem dJ9_min_7cf53_0 : decode cJ9_min_7cf53 0 = .ok (.iload_n 0, 1) := by decide +kernel
theorem dJ9_min_7cf53_1 : decode cJ9_min_7cf53 1 = .ok (.iload_n 1, 1) := by decide +kernel
theorem dJ9_min_7cf53_2 : decode cJ9_min_7cf53 2 = .ok (.if_icmp .gt 7, 3) := by decide +kernel
theorem dJ9_min_7cf53_5 : decode cJ9_min_7cf53 5 = .ok (.iload_n 0, 1) := by decide +kernel
theorem dJ9_min_7cf53_6 : decode cJ9_min_7cf53 6 = .ok (.goto 4, 3) := by decide +kernel
theorem dJ9_min_7cf53_9 : decode cJ9_min_7cf53 9 = .ok (.iload_n 1, 1) := by decide +kernel
theorem dJ9_min_7cf53_10 : decode cJ9_min_7cf53 10 = .ok (.ireturn, 1) := by decide +kernel
set_option maxRecDepth 20000 in
theorem dL_turned_0 : decode cL_turned 0 = .ok (.aload_n 3, 1) := by decide +kernel
theorem dL_turned_1 : decode cL_turned 1 = .ok (.iconst 0, 1) := by decide +kernel
theorem dL_turned_2 : decode cL_turned 2 = .ok (.aload_n 0, 1) := by decide +kernel
theorem dL_turned_3 : decode cL_turned 3 = .ok (.iload_n 1, 1) := by decide +kernel
theorem dL_turned_4 : decode cL_turned 4 = .ok (.iload_n 2, 1) := by decide +kernel
theorem dL_turned_5 : decode cL_turned 5 = .ok (.invokevirtual 7, 3) := by decide +kernel
theorem dL_turned_8 : decode cL_turned 8 = .ok (.i2l, 1) := by decide +kernel
theorem dL_turned_9 : decode cL_turned 9 = .ok (.lastore, 1) := by decide +kernel
theorem dL_turned_10 : decode cL_turned 10 = .ok (.goto 7, 3) := by decide +kernel
theorem dL_turned_13 : decode cL_turned 13 = .ok (.astore 4, 2) := by decide +kernel
theorem dL_turned_15 : decode cL_turned 15 = .ok (.iconst 1, 1) := by decide +kernel
theorem dL_turned_16 : decode cL_turned 16 = .ok (.ireturn, 1) := by decide +kernel
theorem dL_turned_17 : decode cL_turned 17 = .ok (.iconst 0, 1) := by decide +kernel
theorem dL_turned_18 : decode cL_turned 18 = .ok (.ireturn, 1) := by decide +kernel
set_option maxRecDepth 20000 in
theorem dL_law_0 : decode cL_law 0 = .ok (.new 8, 3) := by decide +kernel
theorem dL_law_3 : decode cL_law 3 = .ok (.dup, 1) := by decide +kernel
theorem dL_law_4 : decode cL_law 4 = .ok (.invokespecial 15, 3) := by decide +kernel
theorem dL_law_7 : decode cL_law 7 = .ok (.astore_n 1, 1) := by decide +kernel
theorem dL_law_8 : decode cL_law 8 = .ok (.new 16, 3) := by decide +kernel
theorem dL_law_11 : decode cL_law 11 = .ok (.dup, 1) := by decide +kernel
theorem dL_law_12 : decode cL_law 12 = .ok (.invokespecial 18, 3) := by decide +kernel
theorem dL_law_15 : decode cL_law 15 = .ok (.astore_n 2, 1) := by decide +kernel
theorem dL_law_16 : decode cL_law 16 = .ok (.iconst 1, 1) := by decide +kernel
theorem dL_law_17 : decode cL_law 17 = .ok (.newarray .long, 2) := by decide +kernel
theorem dL_law_19 : decode cL_law 19 = .ok (.astore_n 3, 1) := by decide +kernel
theorem dL_law_20 : decode cL_law 20 = .ok (.iconst 0, 1) := by decide +kernel
theorem dL_law_21 : decode cL_law 21 = .ok (.istore 4, 2) := by decide +kernel
theorem dL_law_23 : decode cL_law 23 = .ok (.iload 4, 2) := by decide +kernel
theorem dL_law_25 : decode cL_law 25 = .ok (.aload_n 0, 1) := by decide +kernel
theorem dL_law_26 : decode cL_law 26 = .ok (.arraylength, 1) := by decide +kernel
theorem dL_law_27 : decode cL_law 27 = .ok (.iconst 5, 1) := by decide +kernel
theorem dL_law_28 : decode cL_law 28 = .ok (.isub, 1) := by decide +kernel
theorem dL_law_29 : decode cL_law 29 = .ok (.if_icmp .gt 785, 3) := by decide +kernel
theorem dL_law_32 : decode cL_law 32 = .ok (.aload_n 0, 1) := by decide +kernel
theorem dL_law_33 : decode cL_law 33 = .ok (.iload 4, 2) := by decide +kernel
theorem dL_law_35 : decode cL_law 35 = .ok (.iaload, 1) := by decide +kernel
theorem dL_law_36 : decode cL_law 36 = .ok (.bipush 31, 2) := by decide +kernel
theorem dL_law_38 : decode cL_law 38 = .ok (.iand, 1) := by decide +kernel
theorem dL_law_39 : decode cL_law 39 = .ok (.tableswitch 769 0 16 #[81, 142, 207, 244, 281, 334, 359, 384, 409, 458, 519, 556, 593, 642, 667, 704, 744], 81) := by decide +kernel
theorem dL_law_120 : decode cL_law 120 = .ok (.aload_n 1, 1) := by decide +kernel
theorem dL_law_121 : decode cL_law 121 = .ok (.aload_n 0, 1) := by decide +kernel
theorem dL_law_122 : decode cL_law 122 = .ok (.iload 4, 2) := by decide +kernel
theorem dL_law_124 : decode cL_law 124 = .ok (.iconst 1, 1) := by decide +kernel
theorem dL_law_125 : decode cL_law 125 = .ok (.iadd, 1) := by decide +kernel
theorem dL_law_126 : decode cL_law 126 = .ok (.iaload, 1) := by decide +kernel
theorem dL_law_127 : decode cL_law 127 = .ok (.aload_n 0, 1) := by decide +kernel
theorem dL_law_128 : decode cL_law 128 = .ok (.iload 4, 2) := by decide +kernel
theorem dL_law_130 : decode cL_law 130 = .ok (.iconst 2, 1) := by decide +kernel
theorem dL_law_131 : decode cL_law 131 = .ok (.iadd, 1) := by decide +kernel
theorem dL_law_132 : decode cL_law 132 = .ok (.iaload, 1) := by decide +kernel
theorem dL_law_133 : decode cL_law 133 = .ok (.aload_n 0, 1) := by decide +kernel
theorem dL_law_134 : decode cL_law 134 = .ok (.iload 4, 2) := by decide +kernel
theorem dL_law_136 : decode cL_law 136 = .ok (.iconst 3, 1) := by decide +kernel
theorem dL_law_137 : decode cL_law 137 = .ok (.iadd, 1) := by decide +kernel
theorem dL_law_138 : decode cL_law 138 = .ok (.iaload, 1) := by decide +kernel
theorem dL_law_139 : decode cL_law 139 = .ok (.aload_n 0, 1) := by decide +kernel
theorem dL_law_140 : decode cL_law 140 = .ok (.iload 4, 2) := by decide +kernel
theorem dL_law_142 : decode cL_law 142 = .ok (.iconst 4, 1) := by decide +kernel
theorem dL_law_143 : decode cL_law 143 = .ok (.iadd, 1) := by decide +kernel
theorem dL_law_144 : decode cL_law 144 = .ok (.iaload, 1) := by decide +kernel
theorem dL_law_145 : decode cL_law 145 = .ok (.invokevirtual 19, 3) := by decide +kernel
theorem dL_law_148 : decode cL_law 148 = .ok (.pop, 1) := by decide +kernel
theorem dL_law_149 : decode cL_law 149 = .ok (.aload_n 2, 1) := by decide +kernel
theorem dL_law_150 : decode cL_law 150 = .ok (.aload_n 0, 1) := by decide +kernel
theorem dL_law_151 : decode cL_law 151 = .ok (.iload 4, 2) := by decide +kernel
theorem dL_law_153 : decode cL_law 153 = .ok (.iconst 1, 1) := by decide +kernel
theorem dL_law_154 : decode cL_law 154 = .ok (.iadd, 1) := by decide +kernel
theorem dL_law_155 : decode cL_law 155 = .ok (.iaload, 1) := by decide +kernel
theorem dL_law_156 : decode cL_law 156 = .ok (.aload_n 0, 1) := by decide +kernel
theorem dL_law_157 : decode cL_law 157 = .ok (.iload 4, 2) := by decide +kernel
theorem dL_law_159 : decode cL_law 159 = .ok (.iconst 2, 1) := by decide +kernel
theorem dL_law_160 : decode cL_law 160 = .ok (.iadd, 1) := by decide +kernel
theorem dL_law_161 : decode cL_law 161 = .ok (.iaload, 1) := by decide +kernel
theorem dL_law_162 : decode cL_law 162 = .ok (.aload_n 0, 1) := by decide +kernel
theorem dL_law_163 : decode cL_law 163 = .ok (.iload 4, 2) := by decide +kernel
theorem dL_law_165 : decode cL_law 165 = .ok (.iconst 3, 1) := by decide +kernel
theorem dL_law_166 : decode cL_law 166 = .ok (.iadd, 1) := by decide +kernel
theorem dL_law_167 : decode cL_law 167 = .ok (.iaload, 1) := by decide +kernel
theorem dL_law_168 : decode cL_law 168 = .ok (.aload_n 0, 1) := by decide +kernel
theorem dL_law_169 : decode cL_law 169 = .ok (.iload 4, 2) := by decide +kernel
theorem dL_law_171 : decode cL_law 171 = .ok (.iconst 4, 1) := by decide +kernel
theorem dL_law_172 : decode cL_law 172 = .ok (.iadd, 1) := by decide +kernel
theorem dL_law_173 : decode cL_law 173 = .ok (.iaload, 1) := by decide +kernel
theorem dL_law_174 : decode cL_law 174 = .ok (.invokevirtual 23, 3) := by decide +kernel
theorem dL_law_177 : decode cL_law 177 = .ok (.pop, 1) := by decide +kernel
theorem dL_law_178 : decode cL_law 178 = .ok (.goto 630, 3) := by decide +kernel
theorem dL_law_181 : decode cL_law 181 = .ok (.aload_n 1, 1) := by decide +kernel
theorem dL_law_182 : decode cL_law 182 = .ok (.aload_n 0, 1) := by decide +kernel
theorem dL_law_183 : decode cL_law 183 = .ok (.iload 4, 2) := by decide +kernel
theorem dL_law_185 : decode cL_law 185 = .ok (.iconst 1, 1) := by decide +kernel
theorem dL_law_186 : decode cL_law 186 = .ok (.iadd, 1) := by decide +kernel
theorem dL_law_187 : decode cL_law 187 = .ok (.iaload, 1) := by decide +kernel
theorem dL_law_188 : decode cL_law 188 = .ok (.aload_n 0, 1) := by decide +kernel
theorem dL_law_189 : decode cL_law 189 = .ok (.iload 4, 2) := by decide +kernel
theorem dL_law_191 : decode cL_law 191 = .ok (.iconst 2, 1) := by decide +kernel
theorem dL_law_192 : decode cL_law 192 = .ok (.iadd, 1) := by decide +kernel
theorem dL_law_193 : decode cL_law 193 = .ok (.iaload, 1) := by decide +kernel
theorem dL_law_194 : decode cL_law 194 = .ok (.aload_n 0, 1) := by decide +kernel
theorem dL_law_195 : decode cL_law 195 = .ok (.iload 4, 2) := by decide +kernel
theorem dL_law_197 : decode cL_law 197 = .ok (.iconst 3, 1) := by decide +kernel
theorem dL_law_198 : decode cL_law 198 = .ok (.iadd, 1) := by decide +kernel
theorem dL_law_199 : decode cL_law 199 = .ok (.iaload, 1) := by decide +kernel
theorem dL_law_200 : decode cL_law 200 = .ok (.ifCond .eq 7, 3) := by decide +kernel
theorem dL_law_203 : decode cL_law 203 = .ok (.iconst 1, 1) := by decide +kernel
theorem dL_law_204 : decode cL_law 204 = .ok (.goto 4, 3) := by decide +kernel
theorem dL_law_207 : decode cL_law 207 = .ok (.iconst 0, 1) := by decide +kernel
theorem dL_law_208 : decode cL_law 208 = .ok (.invokevirtual 24, 3) := by decide +kernel
theorem dL_law_211 : decode cL_law 211 = .ok (.aload_n 2, 1) := by decide +kernel
theorem dL_law_212 : decode cL_law 212 = .ok (.aload_n 0, 1) := by decide +kernel
theorem dL_law_213 : decode cL_law 213 = .ok (.iload 4, 2) := by decide +kernel
theorem dL_law_215 : decode cL_law 215 = .ok (.iconst 1, 1) := by decide +kernel
theorem dL_law_216 : decode cL_law 216 = .ok (.iadd, 1) := by decide +kernel
theorem dL_law_217 : decode cL_law 217 = .ok (.iaload, 1) := by decide +kernel
theorem dL_law_218 : decode cL_law 218 = .ok (.aload_n 0, 1) := by decide +kernel
theorem dL_law_219 : decode cL_law 219 = .ok (.iload 4, 2) := by decide +kernel
theorem dL_law_221 : decode cL_law 221 = .ok (.iconst 2, 1) := by decide +kernel
theorem dL_law_222 : decode cL_law 222 = .ok (.iadd, 1) := by decide +kernel
theorem dL_law_223 : decode cL_law 223 = .ok (.iaload, 1) := by decide +kernel
theorem dL_law_224 : decode cL_law 224 = .ok (.aload_n 0, 1) := by decide +kernel
theorem dL_law_225 : decode cL_law 225 = .ok (.iload 4, 2) := by decide +kernel
theorem dL_law_227 : decode cL_law 227 = .ok (.iconst 3, 1) := by decide +kernel
theorem dL_law_228 : decode cL_law 228 = .ok (.iadd, 1) := by decide +kernel
theorem dL_law_229 : decode cL_law 229 = .ok (.iaload, 1) := by decide +kernel
theorem dL_law_230 : decode cL_law 230 = .ok (.ifCond .eq 7, 3) := by decide +kernel
theorem dL_law_233 : decode cL_law 233 = .ok (.iconst 1, 1) := by decide +kernel
theorem dL_law_234 : decode cL_law 234 = .ok (.goto 4, 3) := by decide +kernel
theorem dL_law_237 : decode cL_law 237 = .ok (.iconst 0, 1) := by decide +kernel
theorem dL_law_238 : decode cL_law 238 = .ok (.invokevirtual 28, 3) := by decide +kernel
theorem dL_law_241 : decode cL_law 241 = .ok (.if_icmp .eq 567, 3) := by decide +kernel
theorem dL_law_244 : decode cL_law 244 = .ok (.iconst 0, 1) := by decide +kernel
theorem dL_law_245 : decode cL_law 245 = .ok (.ireturn, 1) := by decide +kernel
theorem dL_law_246 : decode cL_law 246 = .ok (.aload_n 1, 1) := by decide +kernel
theorem dL_law_247 : decode cL_law 247 = .ok (.aload_n 0, 1) := by decide +kernel
theorem dL_law_248 : decode cL_law 248 = .ok (.iload 4, 2) := by decide +kernel
theorem dL_law_250 : decode cL_law 250 = .ok (.iconst 1, 1) := by decide +kernel
theorem dL_law_251 : decode cL_law 251 = .ok (.iadd, 1) := by decide +kernel
theorem dL_law_252 : decode cL_law 252 = .ok (.iaload, 1) := by decide +kernel
theorem dL_law_253 : decode cL_law 253 = .ok (.aload_n 0, 1) := by decide +kernel
theorem dL_law_254 : decode cL_law 254 = .ok (.iload 4, 2) := by decide +kernel
theorem dL_law_256 : decode cL_law 256 = .ok (.iconst 2, 1) := by decide +kernel
theorem dL_law_257 : decode cL_law 257 = .ok (.iadd, 1) := by decide +kernel
theorem dL_law_258 : decode cL_law 258 = .ok (.iaload, 1) := by decide +kernel
theorem dL_law_259 : decode cL_law 259 = .ok (.invokevirtual 29, 3) := by decide +kernel
theorem dL_law_262 : decode cL_law 262 = .ok (.pop, 1) := by decide +kernel
theorem dL_law_263 : decode cL_law 263 = .ok (.aload_n 2, 1) := by decide +kernel
theorem dL_law_264 : decode cL_law 264 = .ok (.aload_n 0, 1) := by decide +kernel
theorem dL_law_265 : decode cL_law 265 = .ok (.iload 4, 2) := by decide +kernel
theorem dL_law_267 : decode cL_law 267 = .ok (.iconst 1, 1) := by decide +kernel
theorem dL_law_268 : decode cL_law 268 = .ok (.iadd, 1) := by decide +kernel
theorem dL_law_269 : decode cL_law 269 = .ok (.iaload, 1) := by decide +kernel
theorem dL_law_270 : decode cL_law 270 = .ok (.aload_n 0, 1) := by decide +kernel
theorem dL_law_271 : decode cL_law 271 = .ok (.iload 4, 2) := by decide +kernel
theorem dL_law_273 : decode cL_law 273 = .ok (.iconst 2, 1) := by decide +kernel
theorem dL_law_274 : decode cL_law 274 = .ok (.iadd, 1) := by decide +kernel
theorem dL_law_275 : decode cL_law 275 = .ok (.iaload, 1) := by decide +kernel
theorem dL_law_276 : decode cL_law 276 = .ok (.invokevirtual 33, 3) := by decide +kernel
theorem dL_law_279 : decode cL_law 279 = .ok (.pop, 1) := by decide +kernel
theorem dL_law_280 : decode cL_law 280 = .ok (.goto 528, 3) := by decide +kernel
theorem dL_law_283 : decode cL_law 283 = .ok (.aload_n 1, 1) := by decide +kernel
theorem dL_law_284 : decode cL_law 284 = .ok (.aload_n 0, 1) := by decide +kernel
theorem dL_law_285 : decode cL_law 285 = .ok (.iload 4, 2) := by decide +kernel
theorem dL_law_287 : decode cL_law 287 = .ok (.iconst 1, 1) := by decide +kernel
theorem dL_law_288 : decode cL_law 288 = .ok (.iadd, 1) := by decide +kernel
theorem dL_law_289 : decode cL_law 289 = .ok (.iaload, 1) := by decide +kernel
theorem dL_law_290 : decode cL_law 290 = .ok (.aload_n 0, 1) := by decide +kernel
theorem dL_law_291 : decode cL_law 291 = .ok (.iload 4, 2) := by decide +kernel
theorem dL_law_293 : decode cL_law 293 = .ok (.iconst 2, 1) := by decide +kernel
theorem dL_law_294 : decode cL_law 294 = .ok (.iadd, 1) := by decide +kernel
theorem dL_law_295 : decode cL_law 295 = .ok (.iaload, 1) := by decide +kernel
theorem dL_law_296 : decode cL_law 296 = .ok (.invokevirtual 34, 3) := by decide +kernel
theorem dL_law_299 : decode cL_law 299 = .ok (.pop, 1) := by decide +kernel
theorem dL_law_300 : decode cL_law 300 = .ok (.aload_n 2, 1) := by decide +kernel
theorem dL_law_301 : decode cL_law 301 = .ok (.aload_n 0, 1) := by decide +kernel
theorem dL_law_302 : decode cL_law 302 = .ok (.iload 4, 2) := by decide +kernel
theorem dL_law_304 : decode cL_law 304 = .ok (.iconst 1, 1) := by decide +kernel
theorem dL_law_305 : decode cL_law 305 = .ok (.iadd, 1) := by decide +kernel
theorem dL_law_306 : decode cL_law 306 = .ok (.iaload, 1) := by decide +kernel
theorem dL_law_307 : decode cL_law 307 = .ok (.aload_n 0, 1) := by decide +kernel
theorem dL_law_308 : decode cL_law 308 = .ok (.iload 4, 2) := by decide +kernel
theorem dL_law_310 : decode cL_law 310 = .ok (.iconst 2, 1) := by decide +kernel
theorem dL_law_311 : decode cL_law 311 = .ok (.iadd, 1) := by decide +kernel
theorem dL_law_312 : decode cL_law 312 = .ok (.iaload, 1) := by decide +kernel
theorem dL_law_313 : decode cL_law 313 = .ok (.invokevirtual 37, 3) := by decide +kernel
theorem dL_law_316 : decode cL_law 316 = .ok (.pop, 1) := by decide +kernel
theorem dL_law_317 : decode cL_law 317 = .ok (.goto 491, 3) := by decide +kernel
theorem dL_law_320 : decode cL_law 320 = .ok (.aload_n 1, 1) := by decide +kernel
theorem dL_law_321 : decode cL_law 321 = .ok (.aload_n 0, 1) := by decide +kernel
theorem dL_law_322 : decode cL_law 322 = .ok (.iload 4, 2) := by decide +kernel
theorem dL_law_324 : decode cL_law 324 = .ok (.iconst 1, 1) := by decide +kernel
theorem dL_law_325 : decode cL_law 325 = .ok (.iadd, 1) := by decide +kernel
theorem dL_law_326 : decode cL_law 326 = .ok (.iaload, 1) := by decide +kernel
theorem dL_law_327 : decode cL_law 327 = .ok (.aload_n 0, 1) := by decide +kernel
theorem dL_law_328 : decode cL_law 328 = .ok (.iload 4, 2) := by decide +kernel
theorem dL_law_330 : decode cL_law 330 = .ok (.iconst 2, 1) := by decide +kernel
theorem dL_law_331 : decode cL_law 331 = .ok (.iadd, 1) := by decide +kernel
theorem dL_law_332 : decode cL_law 332 = .ok (.iaload, 1) := by decide +kernel
theorem dL_law_333 : decode cL_law 333 = .ok (.ifCond .eq 7, 3) := by decide +kernel
theorem dL_law_336 : decode cL_law 336 = .ok (.iconst 1, 1) := by decide +kernel
theorem dL_law_337 : decode cL_law 337 = .ok (.goto 4, 3) := by decide +kernel
theorem dL_law_340 : decode cL_law 340 = .ok (.iconst 0, 1) := by decide +kernel
theorem dL_law_341 : decode cL_law 341 = .ok (.invokevirtual 38, 3) := by decide +kernel
theorem dL_law_344 : decode cL_law 344 = .ok (.pop, 1) := by decide +kernel
theorem dL_law_345 : decode cL_law 345 = .ok (.aload_n 2, 1) := by decide +kernel
theorem dL_law_346 : decode cL_law 346 = .ok (.aload_n 0, 1) := by decide +kernel
theorem dL_law_347 : decode cL_law 347 = .ok (.iload 4, 2) := by decide +kernel
theorem dL_law_349 : decode cL_law 349 = .ok (.iconst 1, 1) := by decide +kernel
theorem dL_law_350 : decode cL_law 350 = .ok (.iadd, 1) := by decide +kernel
theorem dL_law_351 : decode cL_law 351 = .ok (.iaload, 1) := by decide +kernel
theorem dL_law_352 : decode cL_law 352 = .ok (.aload_n 0, 1) := by decide +kernel
theorem dL_law_353 : decode cL_law 353 = .ok (.iload 4, 2) := by decide +kernel
theorem dL_law_355 : decode cL_law 355 = .ok (.iconst 2, 1) := by decide +kernel
theorem dL_law_356 : decode cL_law 356 = .ok (.iadd, 1) := by decide +kernel
theorem dL_law_357 : decode cL_law 357 = .ok (.iaload, 1) := by decide +kernel
theorem dL_law_358 : decode cL_law 358 = .ok (.ifCond .eq 7, 3) := by decide +kernel
theorem dL_law_361 : decode cL_law 361 = .ok (.iconst 1, 1) := by decide +kernel
theorem dL_law_362 : decode cL_law 362 = .ok (.goto 4, 3) := by decide +kernel
theorem dL_law_365 : decode cL_law 365 = .ok (.iconst 0, 1) := by decide +kernel
theorem dL_law_366 : decode cL_law 366 = .ok (.invokevirtual 42, 3) := by decide +kernel
theorem dL_law_369 : decode cL_law 369 = .ok (.pop, 1) := by decide +kernel
theorem dL_law_370 : decode cL_law 370 = .ok (.goto 438, 3) := by decide +kernel
theorem dL_law_373 : decode cL_law 373 = .ok (.aload_n 1, 1) := by decide +kernel
theorem dL_law_374 : decode cL_law 374 = .ok (.aload_n 0, 1) := by decide +kernel
theorem dL_law_375 : decode cL_law 375 = .ok (.iload 4, 2) := by decide +kernel
theorem dL_law_377 : decode cL_law 377 = .ok (.iconst 1, 1) := by decide +kernel
theorem dL_law_378 : decode cL_law 378 = .ok (.iadd, 1) := by decide +kernel
theorem dL_law_379 : decode cL_law 379 = .ok (.iaload, 1) := by decide +kernel
theorem dL_law_380 : decode cL_law 380 = .ok (.invokevirtual 43, 3) := by decide +kernel
theorem dL_law_383 : decode cL_law 383 = .ok (.pop, 1) := by decide +kernel
theorem dL_law_384 : decode cL_law 384 = .ok (.aload_n 2, 1) := by decide +kernel
theorem dL_law_385 : decode cL_law 385 = .ok (.aload_n 0, 1) := by decide +kernel
theorem dL_law_386 : decode cL_law 386 = .ok (.iload 4, 2) := by decide +kernel
theorem dL_law_388 : decode cL_law 388 = .ok (.iconst 1, 1) := by decide +kernel
theorem dL_law_389 : decode cL_law 389 = .ok (.iadd, 1) := by decide +kernel
theorem dL_law_390 : decode cL_law 390 = .ok (.iaload, 1) := by decide +kernel
theorem dL_law_391 : decode cL_law 391 = .ok (.invokevirtual 47, 3) := by decide +kernel
theorem dL_law_394 : decode cL_law 394 = .ok (.pop, 1) := by decide +kernel
theorem dL_law_395 : decode cL_law 395 = .ok (.goto 413, 3) := by decide +kernel
theorem dL_law_398 : decode cL_law 398 = .ok (.aload_n 1, 1) := by decide +kernel
theorem dL_law_399 : decode cL_law 399 = .ok (.aload_n 0, 1) := by decide +kernel
theorem dL_law_400 : decode cL_law 400 = .ok (.iload 4, 2) := by decide +kernel
theorem dL_law_402 : decode cL_law 402 = .ok (.iconst 1, 1) := by decide +kernel
theorem dL_law_403 : decode cL_law 403 = .ok (.iadd, 1) := by decide +kernel
theorem dL_law_404 : decode cL_law 404 = .ok (.iaload, 1) := by decide +kernel
theorem dL_law_405 : decode cL_law 405 = .ok (.invokevirtual 48, 3) := by decide +kernel
theorem dL_law_408 : decode cL_law 408 = .ok (.pop, 1) := by decide +kernel
theorem dL_law_409 : decode cL_law 409 = .ok (.aload_n 2, 1) := by decide +kernel
theorem dL_law_410 : decode cL_law 410 = .ok (.aload_n 0, 1) := by decide +kernel
theorem dL_law_411 : decode cL_law 411 = .ok (.iload 4, 2) := by decide +kernel
theorem dL_law_413 : decode cL_law 413 = .ok (.iconst 1, 1) := by decide +kernel
theorem dL_law_414 : decode cL_law 414 = .ok (.iadd, 1) := by decide +kernel
theorem dL_law_415 : decode cL_law 415 = .ok (.iaload, 1) := by decide +kernel
theorem dL_law_416 : decode cL_law 416 = .ok (.invokevirtual 51, 3) := by decide +kernel
theorem dL_law_419 : decode cL_law 419 = .ok (.pop, 1) := by decide +kernel
theorem dL_law_420 : decode cL_law 420 = .ok (.goto 388, 3) := by decide +kernel
theorem dL_law_423 : decode cL_law 423 = .ok (.aload_n 1, 1) := by decide +kernel
theorem dL_law_424 : decode cL_law 424 = .ok (.aload_n 0, 1) := by decide +kernel
theorem dL_law_425 : decode cL_law 425 = .ok (.iload 4, 2) := by decide +kernel
theorem dL_law_427 : decode cL_law 427 = .ok (.iconst 1, 1) := by decide +kernel
theorem dL_law_428 : decode cL_law 428 = .ok (.iadd, 1) := by decide +kernel
theorem dL_law_429 : decode cL_law 429 = .ok (.iaload, 1) := by decide +kernel
theorem dL_law_430 : decode cL_law 430 = .ok (.invokevirtual 52, 3) := by decide +kernel
theorem dL_law_433 : decode cL_law 433 = .ok (.pop, 1) := by decide +kernel
theorem dL_law_434 : decode cL_law 434 = .ok (.aload_n 2, 1) := by decide +kernel
theorem dL_law_435 : decode cL_law 435 = .ok (.aload_n 0, 1) := by decide +kernel
theorem dL_law_436 : decode cL_law 436 = .ok (.iload 4, 2) := by decide +kernel
theorem dL_law_438 : decode cL_law 438 = .ok (.iconst 1, 1) := by decide +kernel
theorem dL_law_439 : decode cL_law 439 = .ok (.iadd, 1) := by decide +kernel
theorem dL_law_440 : decode cL_law 440 = .ok (.iaload, 1) := by decide +kernel
theorem dL_law_441 : decode cL_law 441 = .ok (.invokevirtual 55, 3) := by decide +kernel
theorem dL_law_444 : decode cL_law 444 = .ok (.pop, 1) := by decide +kernel
theorem dL_law_445 : decode cL_law 445 = .ok (.goto 363, 3) := by decide +kernel
theorem dL_law_448 : decode cL_law 448 = .ok (.aload_n 1, 1) := by decide +kernel
theorem dL_law_449 : decode cL_law 449 = .ok (.aload_n 0, 1) := by decide +kernel
theorem dL_law_450 : decode cL_law 450 = .ok (.iload 4, 2) := by decide +kernel
theorem dL_law_452 : decode cL_law 452 = .ok (.iconst 1, 1) := by decide +kernel
theorem dL_law_453 : decode cL_law 453 = .ok (.iadd, 1) := by decide +kernel
theorem dL_law_454 : decode cL_law 454 = .ok (.iaload, 1) := by decide +kernel
theorem dL_law_455 : decode cL_law 455 = .ok (.aload_n 0, 1) := by decide +kernel
theorem dL_law_456 : decode cL_law 456 = .ok (.iload 4, 2) := by decide +kernel
theorem dL_law_458 : decode cL_law 458 = .ok (.iconst 2, 1) := by decide +kernel
theorem dL_law_459 : decode cL_law 459 = .ok (.iadd, 1) := by decide +kernel
theorem dL_law_460 : decode cL_law 460 = .ok (.iaload, 1) := by decide +kernel
theorem dL_law_461 : decode cL_law 461 = .ok (.aload_n 0, 1) := by decide +kernel
theorem dL_law_462 : decode cL_law 462 = .ok (.iload 4, 2) := by decide +kernel
theorem dL_law_464 : decode cL_law 464 = .ok (.iconst 3, 1) := by decide +kernel
theorem dL_law_465 : decode cL_law 465 = .ok (.iadd, 1) := by decide +kernel
theorem dL_law_466 : decode cL_law 466 = .ok (.iaload, 1) := by decide +kernel
theorem dL_law_467 : decode cL_law 467 = .ok (.invokevirtual 56, 3) := by decide +kernel
theorem dL_law_470 : decode cL_law 470 = .ok (.pop, 1) := by decide +kernel
theorem dL_law_471 : decode cL_law 471 = .ok (.aload_n 2, 1) := by decide +kernel
theorem dL_law_472 : decode cL_law 472 = .ok (.aload_n 0, 1) := by decide +kernel
theorem dL_law_473 : decode cL_law 473 = .ok (.iload 4, 2) := by decide +kernel
theorem dL_law_475 : decode cL_law 475 = .ok (.iconst 1, 1) := by decide +kernel
theorem dL_law_476 : decode cL_law 476 = .ok (.iadd, 1) := by decide +kernel
theorem dL_law_477 : decode cL_law 477 = .ok (.iaload, 1) := by decide +kernel
theorem dL_law_478 : decode cL_law 478 = .ok (.aload_n 0, 1) := by decide +kernel
theorem dL_law_479 : decode cL_law 479 = .ok (.iload 4, 2) := by decide +kernel
theorem dL_law_481 : decode cL_law 481 = .ok (.iconst 2, 1) := by decide +kernel
theorem dL_law_482 : decode cL_law 482 = .ok (.iadd, 1) := by decide +kernel
theorem dL_law_483 : decode cL_law 483 = .ok (.iaload, 1) := by decide +kernel
theorem dL_law_484 : decode cL_law 484 = .ok (.aload_n 0, 1) := by decide +kernel
theorem dL_law_485 : decode cL_law 485 = .ok (.iload 4, 2) := by decide +kernel
theorem dL_law_487 : decode cL_law 487 = .ok (.iconst 3, 1) := by decide +kernel
theorem dL_law_488 : decode cL_law 488 = .ok (.iadd, 1) := by decide +kernel
theorem dL_law_489 : decode cL_law 489 = .ok (.iaload, 1) := by decide +kernel
theorem dL_law_490 : decode cL_law 490 = .ok (.invokevirtual 60, 3) := by decide +kernel
theorem dL_law_493 : decode cL_law 493 = .ok (.pop, 1) := by decide +kernel
theorem dL_law_494 : decode cL_law 494 = .ok (.goto 314, 3) := by decide +kernel
theorem dL_law_497 : decode cL_law 497 = .ok (.aload_n 1, 1) := by decide +kernel
theorem dL_law_498 : decode cL_law 498 = .ok (.aload_n 0, 1) := by decide +kernel
theorem dL_law_499 : decode cL_law 499 = .ok (.iload 4, 2) := by decide +kernel
theorem dL_law_501 : decode cL_law 501 = .ok (.iconst 1, 1) := by decide +kernel
theorem dL_law_502 : decode cL_law 502 = .ok (.iadd, 1) := by decide +kernel
theorem dL_law_503 : decode cL_law 503 = .ok (.iaload, 1) := by decide +kernel
theorem dL_law_504 : decode cL_law 504 = .ok (.aload_n 0, 1) := by decide +kernel
theorem dL_law_505 : decode cL_law 505 = .ok (.iload 4, 2) := by decide +kernel
theorem dL_law_507 : decode cL_law 507 = .ok (.iconst 2, 1) := by decide +kernel
theorem dL_law_508 : decode cL_law 508 = .ok (.iadd, 1) := by decide +kernel
theorem dL_law_509 : decode cL_law 509 = .ok (.iaload, 1) := by decide +kernel
theorem dL_law_510 : decode cL_law 510 = .ok (.aload_n 0, 1) := by decide +kernel
theorem dL_law_511 : decode cL_law 511 = .ok (.iload 4, 2) := by decide +kernel
theorem dL_law_513 : decode cL_law 513 = .ok (.iconst 3, 1) := by decide +kernel
theorem dL_law_514 : decode cL_law 514 = .ok (.iadd, 1) := by decide +kernel
theorem dL_law_515 : decode cL_law 515 = .ok (.iaload, 1) := by decide +kernel
theorem dL_law_516 : decode cL_law 516 = .ok (.aload_n 0, 1) := by decide +kernel
theorem dL_law_517 : decode cL_law 517 = .ok (.iload 4, 2) := by decide +kernel
theorem dL_law_519 : decode cL_law 519 = .ok (.iconst 4, 1) := by decide +kernel
theorem dL_law_520 : decode cL_law 520 = .ok (.iadd, 1) := by decide +kernel
theorem dL_law_521 : decode cL_law 521 = .ok (.iaload, 1) := by decide +kernel
theorem dL_law_522 : decode cL_law 522 = .ok (.invokevirtual 61, 3) := by decide +kernel
theorem dL_law_525 : decode cL_law 525 = .ok (.pop, 1) := by decide +kernel
theorem dL_law_526 : decode cL_law 526 = .ok (.aload_n 2, 1) := by decide +kernel
theorem dL_law_527 : decode cL_law 527 = .ok (.aload_n 0, 1) := by decide +kernel
theorem dL_law_528 : decode cL_law 528 = .ok (.iload 4, 2) := by decide +kernel
theorem dL_law_530 : decode cL_law 530 = .ok (.iconst 1, 1) := by decide +kernel
theorem dL_law_531 : decode cL_law 531 = .ok (.iadd, 1) := by decide +kernel
theorem dL_law_532 : decode cL_law 532 = .ok (.iaload, 1) := by decide +kernel
theorem dL_law_533 : decode cL_law 533 = .ok (.aload_n 0, 1) := by decide +kernel
theorem dL_law_534 : decode cL_law 534 = .ok (.iload 4, 2) := by decide +kernel
theorem dL_law_536 : decode cL_law 536 = .ok (.iconst 2, 1) := by decide +kernel
theorem dL_law_537 : decode cL_law 537 = .ok (.iadd, 1) := by decide +kernel
theorem dL_law_538 : decode cL_law 538 = .ok (.iaload, 1) := by decide +kernel
theorem dL_law_539 : decode cL_law 539 = .ok (.aload_n 0, 1) := by decide +kernel
theorem dL_law_540 : decode cL_law 540 = .ok (.iload 4, 2) := by decide +kernel
theorem dL_law_542 : decode cL_law 542 = .ok (.iconst 3, 1) := by decide +kernel
theorem dL_law_543 : decode cL_law 543 = .ok (.iadd, 1) := by decide +kernel
theorem dL_law_544 : decode cL_law 544 = .ok (.iaload, 1) := by decide +kernel
theorem dL_law_545 : decode cL_law 545 = .ok (.aload_n 0, 1) := by decide +kernel
theorem dL_law_546 : decode cL_law 546 = .ok (.iload 4, 2) := by decide +kernel
theorem dL_law_548 : decode cL_law 548 = .ok (.iconst 4, 1) := by decide +kernel
theorem dL_law_549 : decode cL_law 549 = .ok (.iadd, 1) := by decide +kernel
theorem dL_law_550 : decode cL_law 550 = .ok (.iaload, 1) := by decide +kernel
theorem dL_law_551 : decode cL_law 551 = .ok (.invokevirtual 64, 3) := by decide +kernel
theorem dL_law_554 : decode cL_law 554 = .ok (.pop, 1) := by decide +kernel
theorem dL_law_555 : decode cL_law 555 = .ok (.goto 253, 3) := by decide +kernel
theorem dL_law_558 : decode cL_law 558 = .ok (.aload_n 1, 1) := by decide +kernel
theorem dL_law_559 : decode cL_law 559 = .ok (.aload_n 0, 1) := by decide +kernel
theorem dL_law_560 : decode cL_law 560 = .ok (.iload 4, 2) := by decide +kernel
theorem dL_law_562 : decode cL_law 562 = .ok (.iconst 1, 1) := by decide +kernel
theorem dL_law_563 : decode cL_law 563 = .ok (.iadd, 1) := by decide +kernel
theorem dL_law_564 : decode cL_law 564 = .ok (.iaload, 1) := by decide +kernel
theorem dL_law_565 : decode cL_law 565 = .ok (.aload_n 0, 1) := by decide +kernel
theorem dL_law_566 : decode cL_law 566 = .ok (.iload 4, 2) := by decide +kernel
theorem dL_law_568 : decode cL_law 568 = .ok (.iconst 2, 1) := by decide +kernel
theorem dL_law_569 : decode cL_law 569 = .ok (.iadd, 1) := by decide +kernel
theorem dL_law_570 : decode cL_law 570 = .ok (.iaload, 1) := by decide +kernel
theorem dL_law_571 : decode cL_law 571 = .ok (.invokevirtual 65, 3) := by decide +kernel
theorem dL_law_574 : decode cL_law 574 = .ok (.pop, 1) := by decide +kernel
theorem dL_law_575 : decode cL_law 575 = .ok (.aload_n 2, 1) := by decide +kernel
theorem dL_law_576 : decode cL_law 576 = .ok (.aload_n 0, 1) := by decide +kernel
theorem dL_law_577 : decode cL_law 577 = .ok (.iload 4, 2) := by decide +kernel
theorem dL_law_579 : decode cL_law 579 = .ok (.iconst 1, 1) := by decide +kernel
theorem dL_law_580 : decode cL_law 580 = .ok (.iadd, 1) := by decide +kernel
theorem dL_law_581 : decode cL_law 581 = .ok (.iaload, 1) := by decide +kernel
theorem dL_law_582 : decode cL_law 582 = .ok (.aload_n 0, 1) := by decide +kernel
theorem dL_law_583 : decode cL_law 583 = .ok (.iload 4, 2) := by decide +kernel
theorem dL_law_585 : decode cL_law 585 = .ok (.iconst 2, 1) := by decide +kernel
theorem dL_law_586 : decode cL_law 586 = .ok (.iadd, 1) := by decide +kernel
theorem dL_law_587 : decode cL_law 587 = .ok (.iaload, 1) := by decide +kernel
theorem dL_law_588 : decode cL_law 588 = .ok (.invokevirtual 68, 3) := by decide +kernel
theorem dL_law_591 : decode cL_law 591 = .ok (.pop, 1) := by decide +kernel
theorem dL_law_592 : decode cL_law 592 = .ok (.goto 216, 3) := by decide +kernel
theorem dL_law_595 : decode cL_law 595 = .ok (.aload_n 1, 1) := by decide +kernel
theorem dL_law_596 : decode cL_law 596 = .ok (.aload_n 0, 1) := by decide +kernel
theorem dL_law_597 : decode cL_law 597 = .ok (.iload 4, 2) := by decide +kernel
theorem dL_law_599 : decode cL_law 599 = .ok (.iconst 1, 1) := by decide +kernel
theorem dL_law_600 : decode cL_law 600 = .ok (.iadd, 1) := by decide +kernel
theorem dL_law_601 : decode cL_law 601 = .ok (.iaload, 1) := by decide +kernel
theorem dL_law_602 : decode cL_law 602 = .ok (.aload_n 0, 1) := by decide +kernel
theorem dL_law_603 : decode cL_law 603 = .ok (.iload 4, 2) := by decide +kernel
theorem dL_law_605 : decode cL_law 605 = .ok (.iconst 2, 1) := by decide +kernel
theorem dL_law_606 : decode cL_law 606 = .ok (.iadd, 1) := by decide +kernel
theorem dL_law_607 : decode cL_law 607 = .ok (.iaload, 1) := by decide +kernel
theorem dL_law_608 : decode cL_law 608 = .ok (.invokevirtual 69, 3) := by decide +kernel
theorem dL_law_611 : decode cL_law 611 = .ok (.pop, 1) := by decide +kernel
theorem dL_law_612 : decode cL_law 612 = .ok (.aload_n 2, 1) := by decide +kernel
theorem dL_law_613 : decode cL_law 613 = .ok (.aload_n 0, 1) := by decide +kernel
theorem dL_law_614 : decode cL_law 614 = .ok (.iload 4, 2) := by decide +kernel
theorem dL_law_616 : decode cL_law 616 = .ok (.iconst 1, 1) := by decide +kernel
theorem dL_law_617 : decode cL_law 617 = .ok (.iadd, 1) := by decide +kernel
theorem dL_law_618 : decode cL_law 618 = .ok (.iaload, 1) := by decide +kernel
theorem dL_law_619 : decode cL_law 619 = .ok (.aload_n 0, 1) := by decide +kernel
theorem dL_law_620 : decode cL_law 620 = .ok (.iload 4, 2) := by decide +kernel
theorem dL_law_622 : decode cL_law 622 = .ok (.iconst 2, 1) := by decide +kernel
theorem dL_law_623 : decode cL_law 623 = .ok (.iadd, 1) := by decide +kernel
theorem dL_law_624 : decode cL_law 624 = .ok (.iaload, 1) := by decide +kernel
theorem dL_law_625 : decode cL_law 625 = .ok (.invokevirtual 72, 3) := by decide +kernel
theorem dL_law_628 : decode cL_law 628 = .ok (.pop, 1) := by decide +kernel
theorem dL_law_629 : decode cL_law 629 = .ok (.goto 179, 3) := by decide +kernel
theorem dL_law_632 : decode cL_law 632 = .ok (.aload_n 1, 1) := by decide +kernel
theorem dL_law_633 : decode cL_law 633 = .ok (.aload_n 0, 1) := by decide +kernel
theorem dL_law_634 : decode cL_law 634 = .ok (.iload 4, 2) := by decide +kernel
theorem dL_law_636 : decode cL_law 636 = .ok (.iconst 1, 1) := by decide +kernel
theorem dL_law_637 : decode cL_law 637 = .ok (.iadd, 1) := by decide +kernel
theorem dL_law_638 : decode cL_law 638 = .ok (.iaload, 1) := by decide +kernel
theorem dL_law_639 : decode cL_law 639 = .ok (.aload_n 0, 1) := by decide +kernel
theorem dL_law_640 : decode cL_law 640 = .ok (.iload 4, 2) := by decide +kernel
theorem dL_law_642 : decode cL_law 642 = .ok (.iconst 2, 1) := by decide +kernel
theorem dL_law_643 : decode cL_law 643 = .ok (.iadd, 1) := by decide +kernel
theorem dL_law_644 : decode cL_law 644 = .ok (.iaload, 1) := by decide +kernel
theorem dL_law_645 : decode cL_law 645 = .ok (.aload_n 0, 1) := by decide +kernel
theorem dL_law_646 : decode cL_law 646 = .ok (.iload 4, 2) := by decide +kernel
theorem dL_law_648 : decode cL_law 648 = .ok (.iconst 3, 1) := by decide +kernel
theorem dL_law_649 : decode cL_law 649 = .ok (.iadd, 1) := by decide +kernel
theorem dL_law_650 : decode cL_law 650 = .ok (.iaload, 1) := by decide +kernel
theorem dL_law_651 : decode cL_law 651 = .ok (.invokevirtual 73, 3) := by decide +kernel
theorem dL_law_654 : decode cL_law 654 = .ok (.pop, 1) := by decide +kernel
theorem dL_law_655 : decode cL_law 655 = .ok (.aload_n 2, 1) := by decide +kernel
theorem dL_law_656 : decode cL_law 656 = .ok (.aload_n 0, 1) := by decide +kernel
theorem dL_law_657 : decode cL_law 657 = .ok (.iload 4, 2) := by decide +kernel
theorem dL_law_659 : decode cL_law 659 = .ok (.iconst 1, 1) := by decide +kernel
theorem dL_law_660 : decode cL_law 660 = .ok (.iadd, 1) := by decide +kernel
theorem dL_law_661 : decode cL_law 661 = .ok (.iaload, 1) := by decide +kernel
theorem dL_law_662 : decode cL_law 662 = .ok (.aload_n 0, 1) := by decide +kernel
theorem dL_law_663 : decode cL_law 663 = .ok (.iload 4, 2) := by decide +kernel
theorem dL_law_665 : decode cL_law 665 = .ok (.iconst 2, 1) := by decide +kernel
theorem dL_law_666 : decode cL_law 666 = .ok (.iadd, 1) := by decide +kernel
theorem dL_law_667 : decode cL_law 667 = .ok (.iaload, 1) := by decide +kernel
theorem dL_law_668 : decode cL_law 668 = .ok (.aload_n 0, 1) := by decide +kernel
theorem dL_law_669 : decode cL_law 669 = .ok (.iload 4, 2) := by decide +kernel
theorem dL_law_671 : decode cL_law 671 = .ok (.iconst 3, 1) := by decide +kernel
theorem dL_law_672 : decode cL_law 672 = .ok (.iadd, 1) := by decide +kernel
theorem dL_law_673 : decode cL_law 673 = .ok (.iaload, 1) := by decide +kernel
theorem dL_law_674 : decode cL_law 674 = .ok (.invokevirtual 76, 3) := by decide +kernel
theorem dL_law_677 : decode cL_law 677 = .ok (.pop, 1) := by decide +kernel
theorem dL_law_678 : decode cL_law 678 = .ok (.goto 130, 3) := by decide +kernel
theorem dL_law_681 : decode cL_law 681 = .ok (.aload_n 1, 1) := by decide +kernel
theorem dL_law_682 : decode cL_law 682 = .ok (.aload_n 0, 1) := by decide +kernel
theorem dL_law_683 : decode cL_law 683 = .ok (.iload 4, 2) := by decide +kernel
theorem dL_law_685 : decode cL_law 685 = .ok (.iconst 1, 1) := by decide +kernel
theorem dL_law_686 : decode cL_law 686 = .ok (.iadd, 1) := by decide +kernel
theorem dL_law_687 : decode cL_law 687 = .ok (.iaload, 1) := by decide +kernel
theorem dL_law_688 : decode cL_law 688 = .ok (.invokevirtual 77, 3) := by decide +kernel
theorem dL_law_691 : decode cL_law 691 = .ok (.pop, 1) := by decide +kernel
theorem dL_law_692 : decode cL_law 692 = .ok (.aload_n 2, 1) := by decide +kernel
theorem dL_law_693 : decode cL_law 693 = .ok (.aload_n 0, 1) := by decide +kernel
theorem dL_law_694 : decode cL_law 694 = .ok (.iload 4, 2) := by decide +kernel
theorem dL_law_696 : decode cL_law 696 = .ok (.iconst 1, 1) := by decide +kernel
theorem dL_law_697 : decode cL_law 697 = .ok (.iadd, 1) := by decide +kernel
theorem dL_law_698 : decode cL_law 698 = .ok (.iaload, 1) := by decide +kernel
theorem dL_law_699 : decode cL_law 699 = .ok (.invokevirtual 80, 3) := by decide +kernel
theorem dL_law_702 : decode cL_law 702 = .ok (.pop, 1) := by decide +kernel
theorem dL_law_703 : decode cL_law 703 = .ok (.goto 105, 3) := by decide +kernel
theorem dL_law_706 : decode cL_law 706 = .ok (.aload_n 1, 1) := by decide +kernel
theorem dL_law_707 : decode cL_law 707 = .ok (.aload_n 0, 1) := by decide +kernel
theorem dL_law_708 : decode cL_law 708 = .ok (.iload 4, 2) := by decide +kernel
theorem dL_law_710 : decode cL_law 710 = .ok (.iconst 1, 1) := by decide +kernel
theorem dL_law_711 : decode cL_law 711 = .ok (.iadd, 1) := by decide +kernel
theorem dL_law_712 : decode cL_law 712 = .ok (.iaload, 1) := by decide +kernel
theorem dL_law_713 : decode cL_law 713 = .ok (.aload_n 0, 1) := by decide +kernel
theorem dL_law_714 : decode cL_law 714 = .ok (.iload 4, 2) := by decide +kernel
theorem dL_law_716 : decode cL_law 716 = .ok (.iconst 2, 1) := by decide +kernel
theorem dL_law_717 : decode cL_law 717 = .ok (.iadd, 1) := by decide +kernel
theorem dL_law_718 : decode cL_law 718 = .ok (.iaload, 1) := by decide +kernel
theorem dL_law_719 : decode cL_law 719 = .ok (.invokevirtual 81, 3) := by decide +kernel
theorem dL_law_722 : decode cL_law 722 = .ok (.pop, 1) := by decide +kernel
theorem dL_law_723 : decode cL_law 723 = .ok (.aload_n 2, 1) := by decide +kernel
theorem dL_law_724 : decode cL_law 724 = .ok (.aload_n 0, 1) := by decide +kernel
theorem dL_law_725 : decode cL_law 725 = .ok (.iload 4, 2) := by decide +kernel
theorem dL_law_727 : decode cL_law 727 = .ok (.iconst 1, 1) := by decide +kernel
theorem dL_law_728 : decode cL_law 728 = .ok (.iadd, 1) := by decide +kernel
theorem dL_law_729 : decode cL_law 729 = .ok (.iaload, 1) := by decide +kernel
theorem dL_law_730 : decode cL_law 730 = .ok (.aload_n 0, 1) := by decide +kernel
theorem dL_law_731 : decode cL_law 731 = .ok (.iload 4, 2) := by decide +kernel
theorem dL_law_733 : decode cL_law 733 = .ok (.iconst 2, 1) := by decide +kernel
theorem dL_law_734 : decode cL_law 734 = .ok (.iadd, 1) := by decide +kernel
theorem dL_law_735 : decode cL_law 735 = .ok (.iaload, 1) := by decide +kernel
theorem dL_law_736 : decode cL_law 736 = .ok (.invokevirtual 84, 3) := by decide +kernel
theorem dL_law_739 : decode cL_law 739 = .ok (.pop, 1) := by decide +kernel
theorem dL_law_740 : decode cL_law 740 = .ok (.goto 68, 3) := by decide +kernel
theorem dL_law_743 : decode cL_law 743 = .ok (.aload_n 1, 1) := by decide +kernel
theorem dL_law_744 : decode cL_law 744 = .ok (.aload_n 0, 1) := by decide +kernel
theorem dL_law_745 : decode cL_law 745 = .ok (.iload 4, 2) := by decide +kernel
theorem dL_law_747 : decode cL_law 747 = .ok (.iconst 1, 1) := by decide +kernel
theorem dL_law_748 : decode cL_law 748 = .ok (.iadd, 1) := by decide +kernel
theorem dL_law_749 : decode cL_law 749 = .ok (.iaload, 1) := by decide +kernel
theorem dL_law_750 : decode cL_law 750 = .ok (.aload_n 0, 1) := by decide +kernel
theorem dL_law_751 : decode cL_law 751 = .ok (.iload 4, 2) := by decide +kernel
theorem dL_law_753 : decode cL_law 753 = .ok (.iconst 2, 1) := by decide +kernel
theorem dL_law_754 : decode cL_law 754 = .ok (.iadd, 1) := by decide +kernel
theorem dL_law_755 : decode cL_law 755 = .ok (.iaload, 1) := by decide +kernel
theorem dL_law_756 : decode cL_law 756 = .ok (.aload_n 3, 1) := by decide +kernel
theorem dL_law_757 : decode cL_law 757 = .ok (.invokestatic 85, 3) := by decide +kernel
theorem dL_law_760 : decode cL_law 760 = .ok (.istore 5, 2) := by decide +kernel
theorem dL_law_762 : decode cL_law 762 = .ok (.aload_n 2, 1) := by decide +kernel
theorem dL_law_763 : decode cL_law 763 = .ok (.aload_n 0, 1) := by decide +kernel
theorem dL_law_764 : decode cL_law 764 = .ok (.iload 4, 2) := by decide +kernel
theorem dL_law_766 : decode cL_law 766 = .ok (.iconst 1, 1) := by decide +kernel
theorem dL_law_767 : decode cL_law 767 = .ok (.iadd, 1) := by decide +kernel
theorem dL_law_768 : decode cL_law 768 = .ok (.iaload, 1) := by decide +kernel
theorem dL_law_769 : decode cL_law 769 = .ok (.aload_n 0, 1) := by decide +kernel
theorem dL_law_770 : decode cL_law 770 = .ok (.iload 4, 2) := by decide +kernel
theorem dL_law_772 : decode cL_law 772 = .ok (.iconst 2, 1) := by decide +kernel
theorem dL_law_773 : decode cL_law 773 = .ok (.iadd, 1) := by decide +kernel
theorem dL_law_774 : decode cL_law 774 = .ok (.iaload, 1) := by decide +kernel
theorem dL_law_775 : decode cL_law 775 = .ok (.invokevirtual 90, 3) := by decide +kernel
theorem dL_law_778 : decode cL_law 778 = .ok (.istore 6, 2) := by decide +kernel
theorem dL_law_780 : decode cL_law 780 = .ok (.goto 28, 3) := by decide +kernel
theorem dL_law_783 : decode cL_law 783 = .ok (.aload_n 1, 1) := by decide +kernel
theorem dL_law_784 : decode cL_law 784 = .ok (.aload_n 0, 1) := by decide +kernel
theorem dL_law_785 : decode cL_law 785 = .ok (.iload 4, 2) := by decide +kernel
theorem dL_law_787 : decode cL_law 787 = .ok (.iconst 1, 1) := by decide +kernel
theorem dL_law_788 : decode cL_law 788 = .ok (.iadd, 1) := by decide +kernel
theorem dL_law_789 : decode cL_law 789 = .ok (.iaload, 1) := by decide +kernel
theorem dL_law_790 : decode cL_law 790 = .ok (.invokevirtual 91, 3) := by decide +kernel
theorem dL_law_793 : decode cL_law 793 = .ok (.pop, 1) := by decide +kernel
theorem dL_law_794 : decode cL_law 794 = .ok (.aload_n 2, 1) := by decide +kernel
theorem dL_law_795 : decode cL_law 795 = .ok (.aload_n 0, 1) := by decide +kernel
theorem dL_law_796 : decode cL_law 796 = .ok (.iload 4, 2) := by decide +kernel
theorem dL_law_798 : decode cL_law 798 = .ok (.iconst 1, 1) := by decide +kernel
theorem dL_law_799 : decode cL_law 799 = .ok (.iadd, 1) := by decide +kernel
theorem dL_law_800 : decode cL_law 800 = .ok (.iaload, 1) := by decide +kernel
theorem dL_law_801 : decode cL_law 801 = .ok (.invokevirtual 94, 3) := by decide +kernel
theorem dL_law_804 : decode cL_law 804 = .ok (.pop, 1) := by decide +kernel
theorem dL_law_805 : decode cL_law 805 = .ok (.goto 3, 3) := by decide +kernel
theorem dL_law_808 : decode cL_law 808 = .ok (.iinc 4 5, 3) := by decide +kernel
theorem dL_law_811 : decode cL_law 811 = .ok (.goto (-788), 3) := by decide +kernel
theorem dL_law_814 : decode cL_law 814 = .ok (.iconst 1, 1) := by decide +kernel
theorem dL_law_815 : decode cL_law 815 = .ok (.ireturn, 1) := by decide +kernel
