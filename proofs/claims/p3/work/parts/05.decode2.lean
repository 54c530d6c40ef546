theorem dX5_tick_8 : decode cX5_tick 8 = .ok (.if_icmp .gt 14, 3) := by decide +kernel
theorem dX5_tick_11 : decode cX5_tick 11 = .ok (.iload_n 1, 1) := by decide +kernel
theorem dX5_tick_12 : decode cX5_tick 12 = .ok (.ldc 120, 2) := by decide +kernel
theorem dX5_tick_14 : decode cX5_tick 14 = .ok (.aload_n 0, 1) := by decide +kernel
theorem dX5_tick_15 : decode cX5_tick 15 = .ok (.getfield 46, 3) := by decide +kernel
theorem dX5_tick_18 : decode cX5_tick 18 = .ok (.isub, 1) := by decide +kernel
theorem dX5_tick_19 : decode cX5_tick 19 = .ok (.if_icmp .le 5, 3) := by decide +kernel
theorem dX5_tick_22 : decode cX5_tick 22 = .ok (.iconst (-1), 1) := by decide +kernel
theorem dX5_tick_23 : decode cX5_tick 23 = .ok (.ireturn, 1) := by decide +kernel
theorem dX5_tick_24 : decode cX5_tick 24 = .ok (.aload_n 0, 1) := by decide +kernel
theorem dX5_tick_25 : decode cX5_tick 25 = .ok (.getfield 46, 3) := by decide +kernel
theorem dX5_tick_28 : decode cX5_tick 28 = .ok (.iload_n 1, 1) := by decide +kernel
theorem dX5_tick_29 : decode cX5_tick 29 = .ok (.iadd, 1) := by decide +kernel
theorem dX5_tick_30 : decode cX5_tick 30 = .ok (.istore_n 2, 1) := by decide +kernel
theorem dX5_tick_31 : decode cX5_tick 31 = .ok (.iconst 0, 1) := by decide +kernel
theorem dX5_tick_32 : decode cX5_tick 32 = .ok (.istore_n 3, 1) := by decide +kernel
theorem dX5_tick_33 : decode cX5_tick 33 = .ok (.iload_n 3, 1) := by decide +kernel
theorem dX5_tick_34 : decode cX5_tick 34 = .ok (.iload_n 1, 1) := by decide +kernel
theorem dX5_tick_35 : decode cX5_tick 35 = .ok (.if_icmp .ge 103, 3) := by decide +kernel
theorem dX5_tick_38 : decode cX5_tick 38 = .ok (.aload_n 0, 1) := by decide +kernel
theorem dX5_tick_39 : decode cX5_tick 39 = .ok (.getfield 46, 3) := by decide +kernel
theorem dX5_tick_42 : decode cX5_tick 42 = .ok (.iload_n 2, 1) := by decide +kernel
theorem dX5_tick_43 : decode cX5_tick 43 = .ok (.if_icmp .ge 95, 3) := by decide +kernel
theorem dX5_tick_46 : decode cX5_tick 46 = .ok (.aload_n 0, 1) := by decide +kernel
theorem dX5_tick_47 : decode cX5_tick 47 = .ok (.aload_n 0, 1) := by decide +kernel
theorem dX5_tick_48 : decode cX5_tick 48 = .ok (.iload_n 2, 1) := by decide +kernel
theorem dX5_tick_49 : decode cX5_tick 49 = .ok (.invokevirtual 121, 3) := by decide +kernel
theorem dX5_tick_52 : decode cX5_tick 52 = .ok (.putfield 46, 3) := by decide +kernel
theorem dX5_tick_55 : decode cX5_tick 55 = .ok (.iconst 0, 1) := by decide +kernel
theorem dX5_tick_56 : decode cX5_tick 56 = .ok (.istore 4, 2) := by decide +kernel
theorem dX5_tick_58 : decode cX5_tick 58 = .ok (.iload 4, 2) := by decide +kernel
theorem dX5_tick_60 : decode cX5_tick 60 = .ok (.aload_n 0, 1) := by decide +kernel
theorem dX5_tick_61 : decode cX5_tick 61 = .ok (.getfield 42, 3) := by decide +kernel
theorem dX5_tick_64 : decode cX5_tick 64 = .ok (.if_icmp .ge 27, 3) := by decide +kernel
theorem dX5_tick_67 : decode cX5_tick 67 = .ok (.aload_n 0, 1) := by decide +kernel
theorem dX5_tick_68 : decode cX5_tick 68 = .ok (.getfield 17, 3) := by decide +kernel
theorem dX5_tick_71 : decode cX5_tick 71 = .ok (.iload 4, 2) := by decide +kernel
theorem dX5_tick_73 : decode cX5_tick 73 = .ok (.aaload, 1) := by decide +kernel
theorem dX5_tick_74 : decode cX5_tick 74 = .ok (.aload_n 0, 1) := by decide +kernel
theorem dX5_tick_75 : decode cX5_tick 75 = .ok (.getfield 46, 3) := by decide +kernel
theorem dX5_tick_78 : decode cX5_tick 78 = .ok (.aload_n 0, 1) := by decide +kernel
theorem dX5_tick_79 : decode cX5_tick 79 = .ok (.getfield 31, 3) := by decide +kernel
theorem dX5_tick_82 : decode cX5_tick 82 = .ok (.invokevirtual 125, 3) := by decide +kernel
theorem dX5_tick_85 : decode cX5_tick 85 = .ok (.iinc 4 1, 3) := by decide +kernel
theorem dX5_tick_88 : decode cX5_tick 88 = .ok (.goto (-30), 3) := by decide +kernel
theorem dX5_tick_91 : decode cX5_tick 91 = .ok (.aload_n 0, 1) := by decide +kernel
theorem dX5_tick_92 : decode cX5_tick 92 = .ok (.getfield 31, 3) := by decide +kernel
theorem dX5_tick_95 : decode cX5_tick 95 = .ok (.bipush 16, 2) := by decide +kernel
theorem dX5_tick_97 : decode cX5_tick 97 = .ok (.invokevirtual 89, 3) := by decide +kernel
theorem dX5_tick_100 : decode cX5_tick 100 = .ok (.ifCond .ne 32, 3) := by decide +kernel
theorem dX5_tick_103 : decode cX5_tick 103 = .ok (.iconst 0, 1) := by decide +kernel
theorem dX5_tick_104 : decode cX5_tick 104 = .ok (.istore 4, 2) := by decide +kernel
theorem dX5_tick_106 : decode cX5_tick 106 = .ok (.iload 4, 2) := by decide +kernel
theorem dX5_tick_108 : decode cX5_tick 108 = .ok (.aload_n 0, 1) := by decide +kernel
theorem dX5_tick_109 : decode cX5_tick 109 = .ok (.getfield 42, 3) := by decide +kernel
theorem dX5_tick_112 : decode cX5_tick 112 = .ok (.if_icmp .ge 20, 3) := by decide +kernel
theorem dX5_tick_115 : decode cX5_tick 115 = .ok (.aload_n 0, 1) := by decide +kernel
theorem dX5_tick_116 : decode cX5_tick 116 = .ok (.aload_n 0, 1) := by decide +kernel
theorem dX5_tick_117 : decode cX5_tick 117 = .ok (.getfield 17, 3) := by decide +kernel
theorem dX5_tick_120 : decode cX5_tick 120 = .ok (.iload 4, 2) := by decide +kernel
theorem dX5_tick_122 : decode cX5_tick 122 = .ok (.aaload, 1) := by decide +kernel
theorem dX5_tick_123 : decode cX5_tick 123 = .ok (.invokevirtual 128, 3) := by decide +kernel
theorem dX5_tick_126 : decode cX5_tick 126 = .ok (.iinc 4 1, 3) := by decide +kernel
theorem dX5_tick_129 : decode cX5_tick 129 = .ok (.goto (-23), 3) := by decide +kernel
theorem dX5_tick_132 : decode cX5_tick 132 = .ok (.iinc 3 1, 3) := by decide +kernel
theorem dX5_tick_135 : decode cX5_tick 135 = .ok (.goto (-102), 3) := by decide +kernel
theorem dX5_tick_138 : decode cX5_tick 138 = .ok (.aload_n 0, 1) := by decide +kernel
theorem dX5_tick_139 : decode cX5_tick 139 = .ok (.getfield 46, 3) := by decide +kernel
theorem dX5_tick_142 : decode cX5_tick 142 = .ok (.ireturn, 1) := by decide +kernel
set_option maxRecDepth 20000 in
theorem dX5_ask_0 : decode cX5_ask 0 = .ok (.aload_n 0, 1) := by decide +kernel
theorem dX5_ask_1 : decode cX5_ask 1 = .ok (.iload_n 2, 1) := by decide +kernel
theorem dX5_ask_2 : decode cX5_ask 2 = .ok (.invokevirtual 70, 3) := by decide +kernel
theorem dX5_ask_5 : decode cX5_ask 5 = .ok (.ifCond .ne 5, 3) := by decide +kernel
theorem dX5_ask_8 : decode cX5_ask 8 = .ok (.iconst (-1), 1) := by decide +kernel
theorem dX5_ask_9 : decode cX5_ask 9 = .ok (.ireturn, 1) := by decide +kernel
theorem dX5_ask_10 : decode cX5_ask 10 = .ok (.aload_n 0, 1) := by decide +kernel
theorem dX5_ask_11 : decode cX5_ask 11 = .ok (.getfield 11, 3) := by decide +kernel
theorem dX5_ask_14 : decode cX5_ask 14 = .ok (.iload_n 2, 1) := by decide +kernel
theorem dX5_ask_15 : decode cX5_ask 15 = .ok (.aaload, 1) := by decide +kernel
theorem dX5_ask_16 : decode cX5_ask 16 = .ok (.astore 4, 2) := by decide +kernel
theorem dX5_ask_18 : decode cX5_ask 18 = .ok (.aload 4, 2) := by decide +kernel
theorem dX5_ask_20 : decode cX5_ask 20 = .ok (.getfield 132, 3) := by decide +kernel
theorem dX5_ask_23 : decode cX5_ask 23 = .ok (.iload_n 1, 1) := by decide +kernel
theorem dX5_ask_24 : decode cX5_ask 24 = .ok (.invokestatic 135, 3) := by decide +kernel
theorem dX5_ask_27 : decode cX5_ask 27 = .ok (.ifCond .eq 15, 3) := by decide +kernel
theorem dX5_ask_30 : decode cX5_ask 30 = .ok (.aload 4, 2) := by decide +kernel
theorem dX5_ask_32 : decode cX5_ask 32 = .ok (.getfield 138, 3) := by decide +kernel
theorem dX5_ask_35 : decode cX5_ask 35 = .ok (.iload_n 3, 1) := by decide +kernel
theorem dX5_ask_36 : decode cX5_ask 36 = .ok (.invokestatic 135, 3) := by decide +kernel
theorem dX5_ask_39 : decode cX5_ask 39 = .ok (.ifCond .ne 5, 3) := by decide +kernel
theorem dX5_ask_42 : decode cX5_ask 42 = .ok (.iconst (-1), 1) := by decide +kernel
theorem dX5_ask_43 : decode cX5_ask 43 = .ok (.ireturn, 1) := by decide +kernel
theorem dX5_ask_44 : decode cX5_ask 44 = .ok (.aload 4, 2) := by decide +kernel
theorem dX5_ask_46 : decode cX5_ask 46 = .ok (.iload_n 1, 1) := by decide +kernel
theorem dX5_ask_47 : decode cX5_ask 47 = .ok (.invokevirtual 141, 3) := by decide +kernel
theorem dX5_ask_50 : decode cX5_ask 50 = .ok (.istore 5, 2) := by decide +kernel
theorem dX5_ask_52 : decode cX5_ask 52 = .ok (.aload_n 0, 1) := by decide +kernel
theorem dX5_ask_53 : decode cX5_ask 53 = .ok (.getfield 31, 3) := by decide +kernel
theorem dX5_ask_56 : decode cX5_ask 56 = .ok (.iload_n 1, 1) := by decide +kernel
theorem dX5_ask_57 : decode cX5_ask 57 = .ok (.invokevirtual 89, 3) := by decide +kernel
theorem dX5_ask_60 : decode cX5_ask 60 = .ok (.ifCond .ne 19, 3) := by decide +kernel
theorem dX5_ask_63 : decode cX5_ask 63 = .ok (.aload_n 0, 1) := by decide +kernel
theorem dX5_ask_64 : decode cX5_ask 64 = .ok (.aload 4, 2) := by decide +kernel
theorem dX5_ask_66 : decode cX5_ask 66 = .ok (.iload_n 3, 1) := by decide +kernel
theorem dX5_ask_67 : decode cX5_ask 67 = .ok (.iload 5, 2) := by decide +kernel
theorem dX5_ask_69 : decode cX5_ask 69 = .ok (.invokevirtual 144, 3) := by decide +kernel
theorem dX5_ask_72 : decode cX5_ask 72 = .ok (.ifCond .eq 7, 3) := by decide +kernel
theorem dX5_ask_75 : decode cX5_ask 75 = .ok (.iconst 1, 1) := by decide +kernel
theorem dX5_ask_76 : decode cX5_ask 76 = .ok (.goto 4, 3) := by decide +kernel
theorem dX5_ask_79 : decode cX5_ask 79 = .ok (.iconst 0, 1) := by decide +kernel
theorem dX5_ask_80 : decode cX5_ask 80 = .ok (.istore 6, 2) := by decide +kernel
theorem dX5_ask_82 : decode cX5_ask 82 = .ok (.aload_n 0, 1) := by decide +kernel
theorem dX5_ask_83 : decode cX5_ask 83 = .ok (.aload_n 0, 1) := by decide +kernel
theorem dX5_ask_84 : decode cX5_ask 84 = .ok (.getfield 17, 3) := by decide +kernel
theorem dX5_ask_87 : decode cX5_ask 87 = .ok (.iload_n 2, 1) := by decide +kernel
theorem dX5_ask_88 : decode cX5_ask 88 = .ok (.aaload, 1) := by decide +kernel
theorem dX5_ask_89 : decode cX5_ask 89 = .ok (.iload_n 1, 1) := by decide +kernel
theorem dX5_ask_90 : decode cX5_ask 90 = .ok (.iload 5, 2) := by decide +kernel
theorem dX5_ask_92 : decode cX5_ask 92 = .ok (.iload 6, 2) := by decide +kernel
theorem dX5_ask_94 : decode cX5_ask 94 = .ok (.invokevirtual 148, 3) := by decide +kernel
theorem dX5_ask_97 : decode cX5_ask 97 = .ok (.ireturn, 1) := by decide +kernel
set_option maxRecDepth 20000 in
theorem dX5_stranger_0 : decode cX5_stranger 0 = .ok (.aload_n 0, 1) := by decide +kernel
theorem dX5_stranger_1 : decode cX5_stranger 1 = .ok (.iload_n 2, 1) := by decide +kernel
theorem dX5_stranger_2 : decode cX5_stranger 2 = .ok (.invokevirtual 70, 3) := by decide +kernel
theorem dX5_stranger_5 : decode cX5_stranger 5 = .ok (.ifCond .eq 13, 3) := by decide +kernel
theorem dX5_stranger_8 : decode cX5_stranger 8 = .ok (.iload_n 1, 1) := by decide +kernel
theorem dX5_stranger_9 : decode cX5_stranger 9 = .ok (.ifCond .lt 9, 3) := by decide +kernel
theorem dX5_stranger_12 : decode cX5_stranger 12 = .ok (.iload_n 1, 1) := by decide +kernel
theorem dX5_stranger_13 : decode cX5_stranger 13 = .ok (.bipush 10, 2) := by decide +kernel
theorem dX5_stranger_15 : decode cX5_stranger 15 = .ok (.if_icmp .lt 5, 3) := by decide +kernel
theorem dX5_stranger_18 : decode cX5_stranger 18 = .ok (.iconst (-1), 1) := by decide +kernel
theorem dX5_stranger_19 : decode cX5_stranger 19 = .ok (.ireturn, 1) := by decide +kernel
theorem dX5_stranger_20 : decode cX5_stranger 20 = .ok (.aload_n 0, 1) := by decide +kernel
theorem dX5_stranger_21 : decode cX5_stranger 21 = .ok (.getfield 11, 3) := by decide +kernel
theorem dX5_stranger_24 : decode cX5_stranger 24 = .ok (.iload_n 2, 1) := by decide +kernel
theorem dX5_stranger_25 : decode cX5_stranger 25 = .ok (.aaload, 1) := by decide +kernel
theorem dX5_stranger_26 : decode cX5_stranger 26 = .ok (.astore 5, 2) := by decide +kernel
theorem dX5_stranger_28 : decode cX5_stranger 28 = .ok (.aload 5, 2) := by decide +kernel
theorem dX5_stranger_30 : decode cX5_stranger 30 = .ok (.getfield 132, 3) := by decide +kernel
theorem dX5_stranger_33 : decode cX5_stranger 33 = .ok (.iload_n 1, 1) := by decide +kernel
theorem dX5_stranger_34 : decode cX5_stranger 34 = .ok (.invokestatic 135, 3) := by decide +kernel
theorem dX5_stranger_37 : decode cX5_stranger 37 = .ok (.ifCond .ne 30, 3) := by decide +kernel
theorem dX5_stranger_40 : decode cX5_stranger 40 = .ok (.aload 5, 2) := by decide +kernel
theorem dX5_stranger_42 : decode cX5_stranger 42 = .ok (.getfield 138, 3) := by decide +kernel
theorem dX5_stranger_45 : decode cX5_stranger 45 = .ok (.iload_n 3, 1) := by decide +kernel
theorem dX5_stranger_46 : decode cX5_stranger 46 = .ok (.invokestatic 135, 3) := by decide +kernel
theorem dX5_stranger_49 : decode cX5_stranger 49 = .ok (.ifCond .eq 18, 3) := by decide +kernel
theorem dX5_stranger_52 : decode cX5_stranger 52 = .ok (.iload 4, 2) := by decide +kernel
theorem dX5_stranger_54 : decode cX5_stranger 54 = .ok (.ifCond .lt 13, 3) := by decide +kernel
theorem dX5_stranger_57 : decode cX5_stranger 57 = .ok (.iload 4, 2) := by decide +kernel
theorem dX5_stranger_59 : decode cX5_stranger 59 = .ok (.aload 5, 2) := by decide +kernel
theorem dX5_stranger_61 : decode cX5_stranger 61 = .ok (.getfield 102, 3) := by decide +kernel
theorem dX5_stranger_64 : decode cX5_stranger 64 = .ok (.if_icmp .le 5, 3) := by decide +kernel
theorem dX5_stranger_67 : decode cX5_stranger 67 = .ok (.iconst (-1), 1) := by decide +kernel
theorem dX5_stranger_68 : decode cX5_stranger 68 = .ok (.ireturn, 1) := by decide +kernel
theorem dX5_stranger_69 : decode cX5_stranger 69 = .ok (.aload_n 0, 1) := by decide +kernel
theorem dX5_stranger_70 : decode cX5_stranger 70 = .ok (.aload_n 0, 1) := by decide +kernel
theorem dX5_stranger_71 : decode cX5_stranger 71 = .ok (.getfield 17, 3) := by decide +kernel
theorem dX5_stranger_74 : decode cX5_stranger 74 = .ok (.iload_n 2, 1) := by decide +kernel
theorem dX5_stranger_75 : decode cX5_stranger 75 = .ok (.aaload, 1) := by decide +kernel
theorem dX5_stranger_76 : decode cX5_stranger 76 = .ok (.iload_n 1, 1) := by decide +kernel
theorem dX5_stranger_77 : decode cX5_stranger 77 = .ok (.iload 4, 2) := by decide +kernel
theorem dX5_stranger_79 : decode cX5_stranger 79 = .ok (.aload_n 0, 1) := by decide +kernel
theorem dX5_stranger_80 : decode cX5_stranger 80 = .ok (.aload 5, 2) := by decide +kernel
theorem dX5_stranger_82 : decode cX5_stranger 82 = .ok (.iload_n 3, 1) := by decide +kernel
theorem dX5_stranger_83 : decode cX5_stranger 83 = .ok (.iload 4, 2) := by decide +kernel
theorem dX5_stranger_85 : decode cX5_stranger 85 = .ok (.invokevirtual 144, 3) := by decide +kernel
theorem dX5_stranger_88 : decode cX5_stranger 88 = .ok (.invokevirtual 148, 3) := by decide +kernel
theorem dX5_stranger_91 : decode cX5_stranger 91 = .ok (.ireturn, 1) := by decide +kernel
set_option maxRecDepth 20000 in
theorem dX5_told_0 : decode cX5_told 0 = .ok (.aload_n 0, 1) := by decide +kernel
theorem dX5_told_1 : decode cX5_told 1 = .ok (.iload_n 1, 1) := by decide +kernel
theorem dX5_told_2 : decode cX5_told 2 = .ok (.invokevirtual 70, 3) := by decide +kernel
theorem dX5_told_5 : decode cX5_told 5 = .ok (.ifCond .ne 5, 3) := by decide +kernel
theorem dX5_told_8 : decode cX5_told 8 = .ok (.iconst (-1), 1) := by decide +kernel
theorem dX5_told_9 : decode cX5_told 9 = .ok (.ireturn, 1) := by decide +kernel
theorem dX5_told_10 : decode cX5_told 10 = .ok (.aload_n 0, 1) := by decide +kernel
theorem dX5_told_11 : decode cX5_told 11 = .ok (.getfield 11, 3) := by decide +kernel
theorem dX5_told_14 : decode cX5_told 14 = .ok (.iload_n 1, 1) := by decide +kernel
theorem dX5_told_15 : decode cX5_told 15 = .ok (.aaload, 1) := by decide +kernel
theorem dX5_told_16 : decode cX5_told 16 = .ok (.astore_n 3, 1) := by decide +kernel
theorem dX5_told_17 : decode cX5_told 17 = .ok (.aload_n 0, 1) := by decide +kernel
theorem dX5_told_18 : decode cX5_told 18 = .ok (.getfield 17, 3) := by decide +kernel
theorem dX5_told_21 : decode cX5_told 21 = .ok (.iload_n 1, 1) := by decide +kernel
theorem dX5_told_22 : decode cX5_told 22 = .ok (.aaload, 1) := by decide +kernel
theorem dX5_told_23 : decode cX5_told 23 = .ok (.astore 4, 2) := by decide +kernel
theorem dX5_told_25 : decode cX5_told 25 = .ok (.iload_n 2, 1) := by decide +kernel
theorem dX5_told_26 : decode cX5_told 26 = .ok (.tableswitch 143 0 11 #[62, 67, 72, 77, 82, 87, 93, 98, 108, 114, 119, 125], 62) := by decide +kernel
theorem dX5_told_88 : decode cX5_told 88 = .ok (.aload_n 3, 1) := by decide +kernel
theorem dX5_told_89 : decode cX5_told 89 = .ok (.getfield 152, 3) := by decide +kernel
theorem dX5_told_92 : decode cX5_told 92 = .ok (.ireturn, 1) := by decide +kernel
theorem dX5_told_93 : decode cX5_told 93 = .ok (.aload_n 3, 1) := by decide +kernel
theorem dX5_told_94 : decode cX5_told 94 = .ok (.getfield 132, 3) := by decide +kernel
theorem dX5_told_97 : decode cX5_told 97 = .ok (.ireturn, 1) := by decide +kernel
theorem dX5_told_98 : decode cX5_told 98 = .ok (.aload_n 3, 1) := by decide +kernel
theorem dX5_told_99 : decode cX5_told 99 = .ok (.getfield 138, 3) := by decide +kernel
theorem dX5_told_102 : decode cX5_told 102 = .ok (.ireturn, 1) := by decide +kernel
theorem dX5_told_103 : decode cX5_told 103 = .ok (.aload_n 3, 1) := by decide +kernel
theorem dX5_told_104 : decode cX5_told 104 = .ok (.getfield 155, 3) := by decide +kernel
theorem dX5_told_107 : decode cX5_told 107 = .ok (.ireturn, 1) := by decide +kernel
theorem dX5_told_108 : decode cX5_told 108 = .ok (.aload_n 3, 1) := by decide +kernel
theorem dX5_told_109 : decode cX5_told 109 = .ok (.getfield 102, 3) := by decide +kernel
theorem dX5_told_112 : decode cX5_told 112 = .ok (.ireturn, 1) := by decide +kernel
theorem dX5_told_113 : decode cX5_told 113 = .ok (.aload 4, 2) := by decide +kernel
theorem dX5_told_115 : decode cX5_told 115 = .ok (.getfield 158, 3) := by decide +kernel
theorem dX5_told_118 : decode cX5_told 118 = .ok (.ireturn, 1) := by decide +kernel
theorem dX5_told_119 : decode cX5_told 119 = .ok (.aload_n 3, 1) := by decide +kernel
theorem dX5_told_120 : decode cX5_told 120 = .ok (.getfield 161, 3) := by decide +kernel
theorem dX5_told_123 : decode cX5_told 123 = .ok (.ireturn, 1) := by decide +kernel
theorem dX5_told_124 : decode cX5_told 124 = .ok (.aload_n 0, 1) := by decide +kernel
theorem dX5_told_125 : decode cX5_told 125 = .ok (.getfield 46, 3) := by decide +kernel
theorem dX5_told_128 : decode cX5_told 128 = .ok (.aload_n 3, 1) := by decide +kernel
theorem dX5_told_129 : decode cX5_told 129 = .ok (.invokevirtual 164, 3) := by decide +kernel
theorem dX5_told_132 : decode cX5_told 132 = .ok (.isub, 1) := by decide +kernel
theorem dX5_told_133 : decode cX5_told 133 = .ok (.ireturn, 1) := by decide +kernel
theorem dX5_told_134 : decode cX5_told 134 = .ok (.aload 4, 2) := by decide +kernel
theorem dX5_told_136 : decode cX5_told 136 = .ok (.getfield 168, 3) := by decide +kernel
theorem dX5_told_139 : decode cX5_told 139 = .ok (.ireturn, 1) := by decide +kernel
theorem dX5_told_140 : decode cX5_told 140 = .ok (.aload_n 3, 1) := by decide +kernel
theorem dX5_told_141 : decode cX5_told 141 = .ok (.invokevirtual 171, 3) := by decide +kernel
theorem dX5_told_144 : decode cX5_told 144 = .ok (.ireturn, 1) := by decide +kernel
theorem dX5_told_145 : decode cX5_told 145 = .ok (.aload 4, 2) := by decide +kernel
theorem dX5_told_147 : decode cX5_told 147 = .ok (.invokevirtual 174, 3) := by decide +kernel
theorem dX5_told_150 : decode cX5_told 150 = .ok (.ireturn, 1) := by decide +kernel
theorem dX5_told_151 : decode cX5_told 151 = .ok (.aload 4, 2) := by decide +kernel
theorem dX5_told_153 : decode cX5_told 153 = .ok (.invokevirtual 105, 3) := by decide +kernel
theorem dX5_told_156 : decode cX5_told 156 = .ok (.ifCond .eq 11, 3) := by decide +kernel
theorem dX5_told_159 : decode cX5_told 159 = .ok (.aload 4, 2) := by decide +kernel
theorem dX5_told_161 : decode cX5_told 161 = .ok (.getfield 177, 3) := by decide +kernel
theorem dX5_told_164 : decode cX5_told 164 = .ok (.goto 4, 3) := by decide +kernel
theorem dX5_told_167 : decode cX5_told 167 = .ok (.iconst (-1), 1) := by decide +kernel
theorem dX5_told_168 : decode cX5_told 168 = .ok (.ireturn, 1) := by decide +kernel
theorem dX5_told_169 : decode cX5_told 169 = .ok (.iconst (-1), 1) := by decide +kernel
theorem dX5_told_170 : decode cX5_told 170 = .ok (.ireturn, 1) := by decide +kernel
set_option maxRecDepth 20000 in
theorem dX5_has_0 : decode cX5_has 0 = .ok (.aload_n 0, 1) := by decide +kernel
theorem dX5_has_1 : decode cX5_has 1 = .ok (.iload_n 2, 1) := by decide +kernel
theorem dX5_has_2 : decode cX5_has 2 = .ok (.invokevirtual 70, 3) := by decide +kernel
theorem dX5_has_5 : decode cX5_has 5 = .ok (.ifCond .eq 19, 3) := by decide +kernel
theorem dX5_has_8 : decode cX5_has 8 = .ok (.aload_n 0, 1) := by decide +kernel
theorem dX5_has_9 : decode cX5_has 9 = .ok (.getfield 11, 3) := by decide +kernel
theorem dX5_has_12 : decode cX5_has 12 = .ok (.iload_n 2, 1) := by decide +kernel
theorem dX5_has_13 : decode cX5_has 13 = .ok (.aaload, 1) := by decide +kernel
theorem dX5_has_14 : decode cX5_has 14 = .ok (.getfield 132, 3) := by decide +kernel
theorem dX5_has_17 : decode cX5_has 17 = .ok (.iload_n 1, 1) := by decide +kernel
theorem dX5_has_18 : decode cX5_has 18 = .ok (.invokestatic 135, 3) := by decide +kernel
theorem dX5_has_21 : decode cX5_has 21 = .ok (.ifCond .ne 5, 3) := by decide +kernel
theorem dX5_has_24 : decode cX5_has 24 = .ok (.iconst (-1), 1) := by decide +kernel
theorem dX5_has_25 : decode cX5_has 25 = .ok (.ireturn, 1) := by decide +kernel
theorem dX5_has_26 : decode cX5_has 26 = .ok (.aload_n 0, 1) := by decide +kernel
theorem dX5_has_27 : decode cX5_has 27 = .ok (.getfield 11, 3) := by decide +kernel
theorem dX5_has_30 : decode cX5_has 30 = .ok (.iload_n 2, 1) := by decide +kernel
theorem dX5_has_31 : decode cX5_has 31 = .ok (.aaload, 1) := by decide +kernel
theorem dX5_has_32 : decode cX5_has 32 = .ok (.iload_n 1, 1) := by decide +kernel
theorem dX5_has_33 : decode cX5_has 33 = .ok (.invokevirtual 141, 3) := by decide +kernel
theorem dX5_has_36 : decode cX5_has 36 = .ok (.ireturn, 1) := by decide +kernel
set_option maxRecDepth 20000 in
theorem dX5_good_0 : decode cX5_good 0 = .ok (.aload_n 0, 1) := by decide +kernel
theorem dX5_good_1 : decode cX5_good 1 = .ok (.iload_n 2, 1) := by decide +kernel
theorem dX5_good_2 : decode cX5_good 2 = .ok (.invokevirtual 70, 3) := by decide +kernel
theorem dX5_good_5 : decode cX5_good 5 = .ok (.ifCond .eq 19, 3) := by decide +kernel
theorem dX5_good_8 : decode cX5_good 8 = .ok (.aload_n 0, 1) := by decide +kernel
theorem dX5_good_9 : decode cX5_good 9 = .ok (.getfield 11, 3) := by decide +kernel
theorem dX5_good_12 : decode cX5_good 12 = .ok (.iload_n 2, 1) := by decide +kernel
theorem dX5_good_13 : decode cX5_good 13 = .ok (.aaload, 1) := by decide +kernel
theorem dX5_good_14 : decode cX5_good 14 = .ok (.getfield 138, 3) := by decide +kernel
theorem dX5_good_17 : decode cX5_good 17 = .ok (.iload_n 1, 1) := by decide +kernel
theorem dX5_good_18 : decode cX5_good 18 = .ok (.invokestatic 135, 3) := by decide +kernel
theorem dX5_good_21 : decode cX5_good 21 = .ok (.ifCond .ne 5, 3) := by decide +kernel
theorem dX5_good_24 : decode cX5_good 24 = .ok (.iconst (-1), 1) := by decide +kernel
theorem dX5_good_25 : decode cX5_good 25 = .ok (.ireturn, 1) := by decide +kernel
theorem dX5_good_26 : decode cX5_good 26 = .ok (.aload_n 0, 1) := by decide +kernel
theorem dX5_good_27 : decode cX5_good 27 = .ok (.getfield 11, 3) := by decide +kernel
theorem dX5_good_30 : decode cX5_good 30 = .ok (.iload_n 2, 1) := by decide +kernel
theorem dX5_good_31 : decode cX5_good 31 = .ok (.aaload, 1) := by decide +kernel
theorem dX5_good_32 : decode cX5_good 32 = .ok (.iload_n 1, 1) := by decide +kernel
theorem dX5_good_33 : decode cX5_good 33 = .ok (.iload_n 3, 1) := by decide +kernel
theorem dX5_good_34 : decode cX5_good 34 = .ok (.invokevirtual 180, 3) := by decide +kernel
theorem dX5_good_37 : decode cX5_good 37 = .ok (.ifCond .eq 7, 3) := by decide +kernel
theorem dX5_good_40 : decode cX5_good 40 = .ok (.iconst 1, 1) := by decide +kernel
theorem dX5_good_41 : decode cX5_good 41 = .ok (.goto 4, 3) := by decide +kernel
theorem dX5_good_44 : decode cX5_good 44 = .ok (.iconst 0, 1) := by decide +kernel
theorem dX5_good_45 : decode cX5_good 45 = .ok (.ireturn, 1) := by decide +kernel
set_option maxRecDepth 20000 in
theorem dX5_plan_0 : decode cX5_plan 0 = .ok (.iload_n 1, 1) := by decide +kernel
theorem dX5_plan_1 : decode cX5_plan 1 = .ok (.ifCond .lt 11, 3) := by decide +kernel
theorem dX5_plan_4 : decode cX5_plan 4 = .ok (.iload_n 1, 1) := by decide +kernel
theorem dX5_plan_5 : decode cX5_plan 5 = .ok (.aload_n 0, 1) := by decide +kernel
theorem dX5_plan_6 : decode cX5_plan 6 = .ok (.getfield 42, 3) := by decide +kernel
theorem dX5_plan_9 : decode cX5_plan 9 = .ok (.if_icmp .lt 5, 3) := by decide +kernel
theorem dX5_plan_12 : decode cX5_plan 12 = .ok (.iconst (-1), 1) := by decide +kernel
theorem dX5_plan_13 : decode cX5_plan 13 = .ok (.ireturn, 1) := by decide +kernel
theorem dX5_plan_14 : decode cX5_plan 14 = .ok (.iconst 0, 1) := by decide +kernel
theorem dX5_plan_15 : decode cX5_plan 15 = .ok (.istore_n 2, 1) := by decide +kernel
theorem dX5_plan_16 : decode cX5_plan 16 = .ok (.iconst (-1), 1) := by decide +kernel
theorem dX5_plan_17 : decode cX5_plan 17 = .ok (.istore_n 3, 1) := by decide +kernel
theorem dX5_plan_18 : decode cX5_plan 18 = .ok (.iconst 0, 1) := by decide +kernel
theorem dX5_plan_19 : decode cX5_plan 19 = .ok (.istore 4, 2) := by decide +kernel
theorem dX5_plan_21 : decode cX5_plan 21 = .ok (.iload 4, 2) := by decide +kernel
theorem dX5_plan_23 : decode cX5_plan 23 = .ok (.iload_n 1, 1) := by decide +kernel
theorem dX5_plan_24 : decode cX5_plan 24 = .ok (.if_icmp .gt 28, 3) := by decide +kernel
theorem dX5_plan_27 : decode cX5_plan 27 = .ok (.aload_n 0, 1) := by decide +kernel
theorem dX5_plan_28 : decode cX5_plan 28 = .ok (.iload_n 2, 1) := by decide +kernel
theorem dX5_plan_29 : decode cX5_plan 29 = .ok (.invokevirtual 183, 3) := by decide +kernel
theorem dX5_plan_32 : decode cX5_plan 32 = .ok (.istore_n 3, 1) := by decide +kernel
theorem dX5_plan_33 : decode cX5_plan 33 = .ok (.iload_n 3, 1) := by decide +kernel
theorem dX5_plan_34 : decode cX5_plan 34 = .ok (.iconst (-1), 1) := by decide +kernel
theorem dX5_plan_35 : decode cX5_plan 35 = .ok (.if_icmp .ne 5, 3) := by decide +kernel
theorem dX5_plan_38 : decode cX5_plan 38 = .ok (.iconst (-1), 1) := by decide +kernel
theorem dX5_plan_39 : decode cX5_plan 39 = .ok (.ireturn, 1) := by decide +kernel
theorem dX5_plan_40 : decode cX5_plan 40 = .ok (.iload_n 2, 1) := by decide +kernel
theorem dX5_plan_41 : decode cX5_plan 41 = .ok (.iconst 1, 1) := by decide +kernel
theorem dX5_plan_42 : decode cX5_plan 42 = .ok (.iload_n 3, 1) := by decide +kernel
theorem dX5_plan_43 : decode cX5_plan 43 = .ok (.ishl, 1) := by decide +kernel
theorem dX5_plan_44 : decode cX5_plan 44 = .ok (.ior, 1) := by decide +kernel
theorem dX5_plan_45 : decode cX5_plan 45 = .ok (.istore_n 2, 1) := by decide +kernel
theorem dX5_plan_46 : decode cX5_plan 46 = .ok (.iinc 4 1, 3) := by decide +kernel
theorem dX5_plan_49 : decode cX5_plan 49 = .ok (.goto (-28), 3) := by decide +kernel
theorem dX5_plan_52 : decode cX5_plan 52 = .ok (.iload_n 3, 1) := by decide +kernel
theorem dX5_plan_53 : decode cX5_plan 53 = .ok (.ireturn, 1) := by decide +kernel
set_option maxRecDepth 20000 in
theorem dX5_hangs_0 : decode cX5_hangs 0 = .ok (.aload_n 0, 1) := by decide +kernel
theorem dX5_hangs_1 : decode cX5_hangs 1 = .ok (.iload_n 1, 1) := by decide +kernel
theorem dX5_hangs_2 : decode cX5_hangs 2 = .ok (.invokevirtual 70, 3) := by decide +kernel
theorem dX5_hangs_5 : decode cX5_hangs 5 = .ok (.ifCond .eq 27, 3) := by decide +kernel
theorem dX5_hangs_8 : decode cX5_hangs 8 = .ok (.aload_n 0, 1) := by decide +kernel
theorem dX5_hangs_9 : decode cX5_hangs 9 = .ok (.iload_n 2, 1) := by decide +kernel
theorem dX5_hangs_10 : decode cX5_hangs 10 = .ok (.invokevirtual 70, 3) := by decide +kernel
theorem dX5_hangs_13 : decode cX5_hangs 13 = .ok (.ifCond .eq 19, 3) := by decide +kernel
theorem dX5_hangs_16 : decode cX5_hangs 16 = .ok (.aload_n 0, 1) := by decide +kernel
theorem dX5_hangs_17 : decode cX5_hangs 17 = .ok (.getfield 24, 3) := by decide +kernel
theorem dX5_hangs_20 : decode cX5_hangs 20 = .ok (.iload_n 1, 1) := by decide +kernel
theorem dX5_hangs_21 : decode cX5_hangs 21 = .ok (.iload_n 2, 1) := by decide +kernel
theorem dX5_hangs_22 : decode cX5_hangs 22 = .ok (.invokevirtual 78, 3) := by decide +kernel
theorem dX5_hangs_25 : decode cX5_hangs 25 = .ok (.ifCond .eq 7, 3) := by decide +kernel
theorem dX5_hangs_28 : decode cX5_hangs 28 = .ok (.iconst 1, 1) := by decide +kernel
theorem dX5_hangs_29 : decode cX5_hangs 29 = .ok (.goto 4, 3) := by decide +kernel
theorem dX5_hangs_32 : decode cX5_hangs 32 = .ok (.iconst 0, 1) := by decide +kernel
theorem dX5_hangs_33 : decode cX5_hangs 33 = .ok (.ireturn, 1) := by decide +kernel
set_option maxRecDepth 20000 in
theorem dX5_turned_0 : decode cX5_turned 0 = .ok (.aload_n 0, 1) := by decide +kernel
theorem dX5_turned_1 : decode cX5_turned 1 = .ok (.getfield 38, 3) := by decide +kernel
theorem dX5_turned_4 : decode cX5_turned 4 = .ok (.iload_n 1, 1) := by decide +kernel
theorem dX5_turned_5 : decode cX5_turned 5 = .ok (.invokevirtual 186, 3) := by decide +kernel
theorem dX5_turned_8 : decode cX5_turned 8 = .ok (.ifCond .eq 12, 3) := by decide +kernel
theorem dX5_turned_11 : decode cX5_turned 11 = .ok (.iload_n 2, 1) := by decide +kernel
theorem dX5_turned_12 : decode cX5_turned 12 = .ok (.ifCond .lt 8, 3) := by decide +kernel
theorem dX5_turned_15 : decode cX5_turned 15 = .ok (.iload_n 2, 1) := by decide +kernel
theorem dX5_turned_16 : decode cX5_turned 16 = .ok (.iconst 5, 1) := by decide +kernel
theorem dX5_turned_17 : decode cX5_turned 17 = .ok (.if_icmp .lt 13, 3) := by decide +kernel
theorem dX5_turned_20 : decode cX5_turned 20 = .ok (.new 189, 3) := by decide +kernel
theorem dX5_turned_23 : decode cX5_turned 23 = .ok (.dup, 1) := by decide +kernel
theorem dX5_turned_24 : decode cX5_turned 24 = .ok (.ldc 191, 2) := by decide +kernel
theorem dX5_turned_26 : decode cX5_turned 26 = .ok (.invokespecial 193, 3) := by decide +kernel
theorem dX5_turned_29 : decode cX5_turned 29 = .ok (.athrow, 1) := by decide +kernel
theorem dX5_turned_30 : decode cX5_turned 30 = .ok (.aload_n 0, 1) := by decide +kernel
theorem dX5_turned_31 : decode cX5_turned 31 = .ok (.getfield 38, 3) := by decide +kernel
theorem dX5_turned_34 : decode cX5_turned 34 = .ok (.getfield 196, 3) := by decide +kernel
theorem dX5_turned_37 : decode cX5_turned 37 = .ok (.iload_n 1, 1) := by decide +kernel
theorem dX5_turned_38 : decode cX5_turned 38 = .ok (.iconst 5, 1) := by decide +kernel
theorem dX5_turned_39 : decode cX5_turned 39 = .ok (.imul, 1) := by decide +kernel
theorem dX5_turned_40 : decode cX5_turned 40 = .ok (.iload_n 2, 1) := by decide +kernel
theorem dX5_turned_41 : decode cX5_turned 41 = .ok (.iadd, 1) := by decide +kernel
theorem dX5_turned_42 : decode cX5_turned 42 = .ok (.iaload, 1) := by decide +kernel
theorem dX5_turned_43 : decode cX5_turned 43 = .ok (.ireturn, 1) := by decide +kernel
set_option maxRecDepth 20000 in
theorem dX5_count_0 : decode cX5_count 0 = .ok (.iload_n 1, 1) := by decide +kernel
theorem dX5_count_1 : decode cX5_count 1 = .ok (.tableswitch 90 0 7 #[47, 52, 57, 65, 70, 75, 80, 85], 47) := by decide +kernel
theorem dX5_count_48 : decode cX5_count 48 = .ok (.aload_n 0, 1) := by decide +kernel
theorem dX5_count_49 : decode cX5_count 49 = .ok (.getfield 46, 3) := by decide +kernel
theorem dX5_count_52 : decode cX5_count 52 = .ok (.ireturn, 1) := by decide +kernel
theorem dX5_count_53 : decode cX5_count 53 = .ok (.aload_n 0, 1) := by decide +kernel
theorem dX5_count_54 : decode cX5_count 54 = .ok (.getfield 42, 3) := by decide +kernel
theorem dX5_count_57 : decode cX5_count 57 = .ok (.ireturn, 1) := by decide +kernel
theorem dX5_count_58 : decode cX5_count 58 = .ok (.aload_n 0, 1) := by decide +kernel
theorem dX5_count_59 : decode cX5_count 59 = .ok (.getfield 38, 3) := by decide +kernel
theorem dX5_count_62 : decode cX5_count 62 = .ok (.getfield 199, 3) := by decide +kernel
theorem dX5_count_65 : decode cX5_count 65 = .ok (.ireturn, 1) := by decide +kernel
theorem dX5_count_66 : decode cX5_count 66 = .ok (.aload_n 0, 1) := by decide +kernel
theorem dX5_count_67 : decode cX5_count 67 = .ok (.invokevirtual 202, 3) := by decide +kernel
theorem dX5_count_70 : decode cX5_count 70 = .ok (.ireturn, 1) := by decide +kernel
theorem dX5_count_71 : decode cX5_count 71 = .ok (.aload_n 0, 1) := by decide +kernel
theorem dX5_count_72 : decode cX5_count 72 = .ok (.invokevirtual 205, 3) := by decide +kernel
theorem dX5_count_75 : decode cX5_count 75 = .ok (.ireturn, 1) := by decide +kernel
theorem dX5_count_76 : decode cX5_count 76 = .ok (.aload_n 0, 1) := by decide +kernel
theorem dX5_count_77 : decode cX5_count 77 = .ok (.getfield 55, 3) := by decide +kernel
theorem dX5_count_80 : decode cX5_count 80 = .ok (.ireturn, 1) := by decide +kernel
theorem dX5_count_81 : decode cX5_count 81 = .ok (.aload_n 0, 1) := by decide +kernel
theorem dX5_count_82 : decode cX5_count 82 = .ok (.getfield 58, 3) := by decide +kernel
theorem dX5_count_85 : decode cX5_count 85 = .ok (.ireturn, 1) := by decide +kernel
theorem dX5_count_86 : decode cX5_count 86 = .ok (.aload_n 0, 1) := by decide +kernel
theorem dX5_count_87 : decode cX5_count 87 = .ok (.invokevirtual 208, 3) := by decide +kernel
theorem dX5_count_90 : decode cX5_count 90 = .ok (.ireturn, 1) := by decide +kernel
theorem dX5_count_91 : decode cX5_count 91 = .ok (.iconst (-1), 1) := by decide +kernel
theorem dX5_count_92 : decode cX5_count 92 = .ok (.ireturn, 1) := by decide +kernel
theorem dX5_isIn_0 : decode cX5_isIn 0 = .ok (.iload_n 1, 1) := by decide +kernel
theorem dX5_isIn_1 : decode cX5_isIn 1 = .ok (.ifCond .lt 21, 3) := by decide +kernel
theorem dX5_isIn_4 : decode cX5_isIn 4 = .ok (.iload_n 1, 1) := by decide +kernel
theorem dX5_isIn_5 : decode cX5_isIn 5 = .ok (.bipush 16, 2) := by decide +kernel
theorem dX5_isIn_7 : decode cX5_isIn 7 = .ok (.if_icmp .ge 15, 3) := by decide +kernel
theorem dX5_isIn_10 : decode cX5_isIn 10 = .ok (.iload_n 0, 1) := by decide +kernel
theorem dX5_isIn_11 : decode cX5_isIn 11 = .ok (.iload_n 1, 1) := by decide +kernel
theorem dX5_isIn_12 : decode cX5_isIn 12 = .ok (.ishr, 1) := by decide +kernel
theorem dX5_isIn_13 : decode cX5_isIn 13 = .ok (.iconst 1, 1) := by decide +kernel
theorem dX5_isIn_14 : decode cX5_isIn 14 = .ok (.iand, 1) := by decide +kernel
theorem dX5_isIn_15 : decode cX5_isIn 15 = .ok (.ifCond .eq 7, 3) := by decide +kernel
theorem dX5_isIn_18 : decode cX5_isIn 18 = .ok (.iconst 1, 1) := by decide +kernel
theorem dX5_isIn_19 : decode cX5_isIn 19 = .ok (.goto 4, 3) := by decide +kernel
theorem dX5_isIn_22 : decode cX5_isIn 22 = .ok (.iconst 0, 1) := by decide +kernel
theorem dX5_isIn_23 : decode cX5_isIn 23 = .ok (.ireturn, 1) := by decide +kernel
theorem dX5_isSecret_0 : decode cX5_isSecret 0 = .ok (.iload_n 1, 1) := by decide +kernel
theorem dX5_isSecret_1 : decode cX5_isSecret 1 = .ok (.ifCond .lt 15, 3) := by decide +kernel
theorem dX5_isSecret_4 : decode cX5_isSecret 4 = .ok (.iload_n 1, 1) := by decide +kernel
theorem dX5_isSecret_5 : decode cX5_isSecret 5 = .ok (.aload_n 0, 1) := by decide +kernel
theorem dX5_isSecret_6 : decode cX5_isSecret 6 = .ok (.getfield 42, 3) := by decide +kernel
theorem dX5_isSecret_9 : decode cX5_isSecret 9 = .ok (.if_icmp .ge 7, 3) := by decide +kernel
theorem dX5_isSecret_12 : decode cX5_isSecret 12 = .ok (.iconst 1, 1) := by decide +kernel
theorem dX5_isSecret_13 : decode cX5_isSecret 13 = .ok (.goto 4, 3) := by decide +kernel
theorem dX5_isSecret_16 : decode cX5_isSecret 16 = .ok (.iconst 0, 1) := by decide +kernel
theorem dX5_isSecret_17 : decode cX5_isSecret 17 = .ok (.ireturn, 1) := by decide +kernel
set_option maxRecDepth 20000 in
theorem dX5_beginTurn_0 : decode cX5_beginTurn 0 = .ok (.aload_n 0, 1) := by decide +kernel
theorem dX5_beginTurn_1 : decode cX5_beginTurn 1 = .ok (.getfield 11, 3) := by decide +kernel
theorem dX5_beginTurn_4 : decode cX5_beginTurn 4 = .ok (.iload_n 1, 1) := by decide +kernel
theorem dX5_beginTurn_5 : decode cX5_beginTurn 5 = .ok (.aaload, 1) := by decide +kernel
theorem dX5_beginTurn_6 : decode cX5_beginTurn 6 = .ok (.aload_n 0, 1) := by decide +kernel
theorem dX5_beginTurn_7 : decode cX5_beginTurn 7 = .ok (.getfield 46, 3) := by decide +kernel
theorem dX5_beginTurn_10 : decode cX5_beginTurn 10 = .ok (.invokevirtual 211, 3) := by decide +kernel
theorem dX5_beginTurn_13 : decode cX5_beginTurn 13 = .ok (.aload_n 0, 1) := by decide +kernel
theorem dX5_beginTurn_14 : decode cX5_beginTurn 14 = .ok (.getfield 38, 3) := by decide +kernel
theorem dX5_beginTurn_17 : decode cX5_beginTurn 17 = .ok (.iload_n 1, 1) := by decide +kernel
theorem dX5_beginTurn_18 : decode cX5_beginTurn 18 = .ok (.aload_n 0, 1) := by decide +kernel
theorem dX5_beginTurn_19 : decode cX5_beginTurn 19 = .ok (.getfield 11, 3) := by decide +kernel
theorem dX5_beginTurn_22 : decode cX5_beginTurn 22 = .ok (.iload_n 1, 1) := by decide +kernel
theorem dX5_beginTurn_23 : decode cX5_beginTurn 23 = .ok (.aaload, 1) := by decide +kernel
theorem dX5_beginTurn_24 : decode cX5_beginTurn 24 = .ok (.getfield 102, 3) := by decide +kernel
theorem dX5_beginTurn_27 : decode cX5_beginTurn 27 = .ok (.aload_n 0, 1) := by decide +kernel
theorem dX5_beginTurn_28 : decode cX5_beginTurn 28 = .ok (.getfield 46, 3) := by decide +kernel
theorem dX5_beginTurn_31 : decode cX5_beginTurn 31 = .ok (.iload_n 2, 1) := by decide +kernel
theorem dX5_beginTurn_32 : decode cX5_beginTurn 32 = .ok (.invokevirtual 214, 3) := by decide +kernel
theorem dX5_beginTurn_35 : decode cX5_beginTurn 35 = .ok (.istore_n 3, 1) := by decide +kernel
theorem dX5_beginTurn_36 : decode cX5_beginTurn 36 = .ok (.aload_n 0, 1) := by decide +kernel
theorem dX5_beginTurn_37 : decode cX5_beginTurn 37 = .ok (.getfield 17, 3) := by decide +kernel
theorem dX5_beginTurn_40 : decode cX5_beginTurn 40 = .ok (.iload_n 1, 1) := by decide +kernel
theorem dX5_beginTurn_41 : decode cX5_beginTurn 41 = .ok (.aaload, 1) := by decide +kernel
theorem dX5_beginTurn_42 : decode cX5_beginTurn 42 = .ok (.iload_n 3, 1) := by decide +kernel
theorem dX5_beginTurn_43 : decode cX5_beginTurn 43 = .ok (.iload_n 2, 1) := by decide +kernel
theorem dX5_beginTurn_44 : decode cX5_beginTurn 44 = .ok (.aload_n 0, 1) := by decide +kernel
theorem dX5_beginTurn_45 : decode cX5_beginTurn 45 = .ok (.getfield 46, 3) := by decide +kernel
theorem dX5_beginTurn_48 : decode cX5_beginTurn 48 = .ok (.aload_n 0, 1) := by decide +kernel
theorem dX5_beginTurn_49 : decode cX5_beginTurn 49 = .ok (.getfield 31, 3) := by decide +kernel
theorem dX5_beginTurn_52 : decode cX5_beginTurn 52 = .ok (.invokevirtual 218, 3) := by decide +kernel
theorem dX5_beginTurn_55 : decode cX5_beginTurn 55 = .ok (.return_, 1) := by decide +kernel
set_option maxRecDepth 20000 in
theorem dX5_isHeldUp_0 : decode cX5_isHeldUp 0 = .ok (.iconst 0, 1) := by decide +kernel
theorem dX5_isHeldUp_1 : decode cX5_isHeldUp 1 = .ok (.istore_n 2, 1) := by decide +kernel
theorem dX5_isHeldUp_2 : decode cX5_isHeldUp 2 = .ok (.iload_n 2, 1) := by decide +kernel
theorem dX5_isHeldUp_3 : decode cX5_isHeldUp 3 = .ok (.aload_n 0, 1) := by decide +kernel
theorem dX5_isHeldUp_4 : decode cX5_isHeldUp 4 = .ok (.getfield 42, 3) := by decide +kernel
theorem dX5_isHeldUp_7 : decode cX5_isHeldUp 7 = .ok (.if_icmp .ge 62, 3) := by decide +kernel
theorem dX5_isHeldUp_10 : decode cX5_isHeldUp 10 = .ok (.iload_n 2, 1) := by decide +kernel
theorem dX5_isHeldUp_11 : decode cX5_isHeldUp 11 = .ok (.iload_n 1, 1) := by decide +kernel
theorem dX5_isHeldUp_12 : decode cX5_isHeldUp 12 = .ok (.if_icmp .eq 27, 3) := by decide +kernel
theorem dX5_isHeldUp_15 : decode cX5_isHeldUp 15 = .ok (.aload_n 0, 1) := by decide +kernel
theorem dX5_isHeldUp_16 : decode cX5_isHeldUp 16 = .ok (.getfield 24, 3) := by decide +kernel
theorem dX5_isHeldUp_19 : decode cX5_isHeldUp 19 = .ok (.iload_n 1, 1) := by decide +kernel
theorem dX5_isHeldUp_20 : decode cX5_isHeldUp 20 = .ok (.iload_n 2, 1) := by decide +kernel
theorem dX5_isHeldUp_21 : decode cX5_isHeldUp 21 = .ok (.invokevirtual 78, 3) := by decide +kernel
theorem dX5_isHeldUp_24 : decode cX5_isHeldUp 24 = .ok (.ifCond .ne 15, 3) := by decide +kernel
theorem dX5_isHeldUp_27 : decode cX5_isHeldUp 27 = .ok (.aload_n 0, 1) := by decide +kernel
theorem dX5_isHeldUp_28 : decode cX5_isHeldUp 28 = .ok (.getfield 24, 3) := by decide +kernel
theorem dX5_isHeldUp_31 : decode cX5_isHeldUp 31 = .ok (.iload_n 2, 1) := by decide +kernel
theorem dX5_isHeldUp_32 : decode cX5_isHeldUp 32 = .ok (.iload_n 1, 1) := by decide +kernel
theorem dX5_isHeldUp_33 : decode cX5_isHeldUp 33 = .ok (.invokevirtual 78, 3) := by decide +kernel
theorem dX5_isHeldUp_36 : decode cX5_isHeldUp 36 = .ok (.ifCond .eq 7, 3) := by decide +kernel
theorem dX5_isHeldUp_39 : decode cX5_isHeldUp 39 = .ok (.iconst 1, 1) := by decide +kernel
theorem dX5_isHeldUp_40 : decode cX5_isHeldUp 40 = .ok (.goto 4, 3) := by decide +kernel
theorem dX5_isHeldUp_43 : decode cX5_isHeldUp 43 = .ok (.iconst 0, 1) := by decide +kernel
theorem dX5_isHeldUp_44 : decode cX5_isHeldUp 44 = .ok (.istore_n 3, 1) := by decide +kernel
theorem dX5_isHeldUp_45 : decode cX5_isHeldUp 45 = .ok (.iload_n 3, 1) := by decide +kernel
theorem dX5_isHeldUp_46 : decode cX5_isHeldUp 46 = .ok (.ifCond .eq 17, 3) := by decide +kernel
theorem dX5_isHeldUp_49 : decode cX5_isHeldUp 49 = .ok (.aload_n 0, 1) := by decide +kernel
theorem dX5_isHeldUp_50 : decode cX5_isHeldUp 50 = .ok (.getfield 17, 3) := by decide +kernel
theorem dX5_isHeldUp_53 : decode cX5_isHeldUp 53 = .ok (.iload_n 2, 1) := by decide +kernel
theorem dX5_isHeldUp_54 : decode cX5_isHeldUp 54 = .ok (.aaload, 1) := by decide +kernel
theorem dX5_isHeldUp_55 : decode cX5_isHeldUp 55 = .ok (.invokevirtual 105, 3) := by decide +kernel
theorem dX5_isHeldUp_58 : decode cX5_isHeldUp 58 = .ok (.ifCond .eq 5, 3) := by decide +kernel
theorem dX5_isHeldUp_61 : decode cX5_isHeldUp 61 = .ok (.iconst 1, 1) := by decide +kernel
theorem dX5_isHeldUp_62 : decode cX5_isHeldUp 62 = .ok (.ireturn, 1) := by decide +kernel
theorem dX5_isHeldUp_63 : decode cX5_isHeldUp 63 = .ok (.iinc 2 1, 3) := by decide +kernel
theorem dX5_isHeldUp_66 : decode cX5_isHeldUp 66 = .ok (.goto (-64), 3) := by decide +kernel
theorem dX5_isHeldUp_69 : decode cX5_isHeldUp 69 = .ok (.iconst 0, 1) := by decide +kernel
theorem dX5_isHeldUp_70 : decode cX5_isHeldUp 70 = .ok (.ireturn, 1) := by decide +kernel
set_option maxRecDepth 20000 in
theorem dX5_nextStir_0 : decode cX5_nextStir 0 = .ok (.iload_n 1, 1) := by decide +kernel
theorem dX5_nextStir_1 : decode cX5_nextStir 1 = .ok (.istore_n 2, 1) := by decide +kernel
theorem dX5_nextStir_2 : decode cX5_nextStir 2 = .ok (.iconst 0, 1) := by decide +kernel
theorem dX5_nextStir_3 : decode cX5_nextStir 3 = .ok (.istore_n 3, 1) := by decide +kernel
theorem dX5_nextStir_4 : decode cX5_nextStir 4 = .ok (.iload_n 3, 1) := by decide +kernel
theorem dX5_nextStir_5 : decode cX5_nextStir 5 = .ok (.aload_n 0, 1) := by decide +kernel
theorem dX5_nextStir_6 : decode cX5_nextStir 6 = .ok (.getfield 42, 3) := by decide +kernel
theorem dX5_nextStir_9 : decode cX5_nextStir 9 = .ok (.if_icmp .ge 67, 3) := by decide +kernel
theorem dX5_nextStir_12 : decode cX5_nextStir 12 = .ok (.iload_n 2, 1) := by decide +kernel
theorem dX5_nextStir_13 : decode cX5_nextStir 13 = .ok (.aload_n 0, 1) := by decide +kernel
theorem dX5_nextStir_14 : decode cX5_nextStir 14 = .ok (.getfield 17, 3) := by decide +kernel
theorem dX5_nextStir_17 : decode cX5_nextStir 17 = .ok (.iload_n 3, 1) := by decide +kernel
theorem dX5_nextStir_18 : decode cX5_nextStir 18 = .ok (.aaload, 1) := by decide +kernel
theorem dX5_nextStir_19 : decode cX5_nextStir 19 = .ok (.iload_n 1, 1) := by decide +kernel
theorem dX5_nextStir_20 : decode cX5_nextStir 20 = .ok (.aload_n 0, 1) := by decide +kernel
theorem dX5_nextStir_21 : decode cX5_nextStir 21 = .ok (.getfield 31, 3) := by decide +kernel
theorem dX5_nextStir_24 : decode cX5_nextStir 24 = .ok (.invokevirtual 222, 3) := by decide +kernel
theorem dX5_nextStir_27 : decode cX5_nextStir 27 = .ok (.invokestatic 226, 3) := by decide +kernel
theorem dX5_nextStir_30 : decode cX5_nextStir 30 = .ok (.istore_n 2, 1) := by decide +kernel
theorem dX5_nextStir_31 : decode cX5_nextStir 31 = .ok (.aload_n 0, 1) := by decide +kernel
theorem dX5_nextStir_32 : decode cX5_nextStir 32 = .ok (.getfield 31, 3) := by decide +kernel
theorem dX5_nextStir_35 : decode cX5_nextStir 35 = .ok (.bipush 16, 2) := by decide +kernel
theorem dX5_nextStir_37 : decode cX5_nextStir 37 = .ok (.invokevirtual 89, 3) := by decide +kernel
theorem dX5_nextStir_40 : decode cX5_nextStir 40 = .ok (.ifCond .ne 30, 3) := by decide +kernel
theorem dX5_nextStir_43 : decode cX5_nextStir 43 = .ok (.iload_n 2, 1) := by decide +kernel
theorem dX5_nextStir_44 : decode cX5_nextStir 44 = .ok (.aload_n 0, 1) := by decide +kernel
theorem dX5_nextStir_45 : decode cX5_nextStir 45 = .ok (.getfield 17, 3) := by decide +kernel
theorem dX5_nextStir_48 : decode cX5_nextStir 48 = .ok (.iload_n 3, 1) := by decide +kernel
theorem dX5_nextStir_49 : decode cX5_nextStir 49 = .ok (.aaload, 1) := by decide +kernel
theorem dX5_nextStir_50 : decode cX5_nextStir 50 = .ok (.iload_n 1, 1) := by decide +kernel
theorem dX5_nextStir_51 : decode cX5_nextStir 51 = .ok (.aload_n 0, 1) := by decide +kernel
theorem dX5_nextStir_52 : decode cX5_nextStir 52 = .ok (.getfield 46, 3) := by decide +kernel
theorem dX5_nextStir_55 : decode cX5_nextStir 55 = .ok (.aload_n 0, 1) := by decide +kernel
theorem dX5_nextStir_56 : decode cX5_nextStir 56 = .ok (.getfield 49, 3) := by decide +kernel
theorem dX5_nextStir_59 : decode cX5_nextStir 59 = .ok (.aload_n 0, 1) := by decide +kernel
theorem dX5_nextStir_60 : decode cX5_nextStir 60 = .ok (.getfield 52, 3) := by decide +kernel
theorem dX5_nextStir_63 : decode cX5_nextStir 63 = .ok (.invokevirtual 232, 3) := by decide +kernel
theorem dX5_nextStir_66 : decode cX5_nextStir 66 = .ok (.invokestatic 226, 3) := by decide +kernel
theorem dX5_nextStir_69 : decode cX5_nextStir 69 = .ok (.istore_n 2, 1) := by decide +kernel
theorem dX5_nextStir_70 : decode cX5_nextStir 70 = .ok (.iinc 3 1, 3) := by decide +kernel
theorem dX5_nextStir_73 : decode cX5_nextStir 73 = .ok (.goto (-69), 3) := by decide +kernel
theorem dX5_nextStir_76 : decode cX5_nextStir 76 = .ok (.iload_n 2, 1) := by decide +kernel
theorem dX5_nextStir_77 : decode cX5_nextStir 77 = .ok (.aload_n 0, 1) := by decide +kernel
theorem dX5_nextStir_78 : decode cX5_nextStir 78 = .ok (.getfield 46, 3) := by decide +kernel
theorem dX5_nextStir_81 : decode cX5_nextStir 81 = .ok (.iconst 1, 1) := by decide +kernel
theorem dX5_nextStir_82 : decode cX5_nextStir 82 = .ok (.iadd, 1) := by decide +kernel
theorem dX5_nextStir_83 : decode cX5_nextStir 83 = .ok (.invokestatic 236, 3) := by decide +kernel
theorem dX5_nextStir_86 : decode cX5_nextStir 86 = .ok (.ireturn, 1) := by decide +kernel
set_option maxRecDepth 20000 in
theorem dX5_goOn_0 : decode cX5_goOn 0 = .ok (.iconst 0, 1) := by decide +kernel
theorem dX5_goOn_1 : decode cX5_goOn 1 = .ok (.istore_n 2, 1) := by decide +kernel
theorem dX5_goOn_2 : decode cX5_goOn 2 = .ok (.iload_n 2, 1) := by decide +kernel
theorem dX5_goOn_3 : decode cX5_goOn 3 = .ok (.iconst 5, 1) := by decide +kernel
theorem dX5_goOn_4 : decode cX5_goOn 4 = .ok (.if_icmp .ge 65, 3) := by decide +kernel
theorem dX5_goOn_7 : decode cX5_goOn 7 = .ok (.aload_n 1, 1) := by decide +kernel
theorem dX5_goOn_8 : decode cX5_goOn 8 = .ok (.aload_n 0, 1) := by decide +kernel
theorem dX5_goOn_9 : decode cX5_goOn 9 = .ok (.getfield 46, 3) := by decide +kernel
theorem dX5_goOn_12 : decode cX5_goOn 12 = .ok (.aload_n 0, 1) := by decide +kernel
theorem dX5_goOn_13 : decode cX5_goOn 13 = .ok (.getfield 49, 3) := by decide +kernel
theorem dX5_goOn_16 : decode cX5_goOn 16 = .ok (.aload_n 0, 1) := by decide +kernel
theorem dX5_goOn_17 : decode cX5_goOn 17 = .ok (.getfield 52, 3) := by decide +kernel
theorem dX5_goOn_20 : decode cX5_goOn 20 = .ok (.invokevirtual 239, 3) := by decide +kernel
theorem dX5_goOn_23 : decode cX5_goOn 23 = .ok (.ifCond .eq 46, 3) := by decide +kernel
theorem dX5_goOn_26 : decode cX5_goOn 26 = .ok (.aload_n 1, 1) := by decide +kernel
theorem dX5_goOn_27 : decode cX5_goOn 27 = .ok (.invokevirtual 243, 3) := by decide +kernel
theorem dX5_goOn_30 : decode cX5_goOn 30 = .ok (.istore_n 3, 1) := by decide +kernel
theorem dX5_goOn_31 : decode cX5_goOn 31 = .ok (.iload_n 3, 1) := by decide +kernel
theorem dX5_goOn_32 : decode cX5_goOn 32 = .ok (.ifCond .ne 18, 3) := by decide +kernel
theorem dX5_goOn_35 : decode cX5_goOn 35 = .ok (.aload_n 0, 1) := by decide +kernel
theorem dX5_goOn_36 : decode cX5_goOn 36 = .ok (.getfield 38, 3) := by decide +kernel
theorem dX5_goOn_39 : decode cX5_goOn 39 = .ok (.aload_n 1, 1) := by decide +kernel
theorem dX5_goOn_40 : decode cX5_goOn 40 = .ok (.getfield 113, 3) := by decide +kernel
theorem dX5_goOn_43 : decode cX5_goOn 43 = .ok (.aload_n 0, 1) := by decide +kernel
theorem dX5_goOn_44 : decode cX5_goOn 44 = .ok (.getfield 46, 3) := by decide +kernel
theorem dX5_goOn_47 : decode cX5_goOn 47 = .ok (.invokevirtual 246, 3) := by decide +kernel
theorem dX5_goOn_50 : decode cX5_goOn 50 = .ok (.aload_n 1, 1) := by decide +kernel
theorem dX5_goOn_51 : decode cX5_goOn 51 = .ok (.iload_n 3, 1) := by decide +kernel
theorem dX5_goOn_52 : decode cX5_goOn 52 = .ok (.aload_n 0, 1) := by decide +kernel
theorem dX5_goOn_53 : decode cX5_goOn 53 = .ok (.getfield 46, 3) := by decide +kernel
theorem dX5_goOn_56 : decode cX5_goOn 56 = .ok (.aload_n 0, 1) := by decide +kernel
theorem dX5_goOn_57 : decode cX5_goOn 57 = .ok (.getfield 31, 3) := by decide +kernel
theorem dX5_goOn_60 : decode cX5_goOn 60 = .ok (.invokevirtual 250, 3) := by decide +kernel
theorem dX5_goOn_63 : decode cX5_goOn 63 = .ok (.iinc 2 1, 3) := by decide +kernel
theorem dX5_goOn_66 : decode cX5_goOn 66 = .ok (.goto (-64), 3) := by decide +kernel
theorem dX5_goOn_69 : decode cX5_goOn 69 = .ok (.return_, 1) := by decide +kernel
set_option maxRecDepth 20000 in
theorem dX5_opens_0 : decode cX5_opens 0 = .ok (.aload_n 0, 1) := by decide +kernel
theorem dX5_opens_1 : decode cX5_opens 1 = .ok (.getfield 31, 3) := by decide +kernel
theorem dX5_opens_4 : decode cX5_opens 4 = .ok (.bipush 10, 2) := by decide +kernel
theorem dX5_opens_6 : decode cX5_opens 6 = .ok (.iload_n 2, 1) := by decide +kernel
theorem dX5_opens_7 : decode cX5_opens 7 = .ok (.iadd, 1) := by decide +kernel
theorem dX5_opens_8 : decode cX5_opens 8 = .ok (.invokevirtual 89, 3) := by decide +kernel
theorem dX5_opens_11 : decode cX5_opens 11 = .ok (.ifCond .ne 16, 3) := by decide +kernel
theorem dX5_opens_14 : decode cX5_opens 14 = .ok (.aload_n 1, 1) := by decide +kernel
theorem dX5_opens_15 : decode cX5_opens 15 = .ok (.iload_n 2, 1) := by decide +kernel
theorem dX5_opens_16 : decode cX5_opens 16 = .ok (.iload_n 3, 1) := by decide +kernel
theorem dX5_opens_17 : decode cX5_opens 17 = .ok (.invokevirtual 180, 3) := by decide +kernel
theorem dX5_opens_20 : decode cX5_opens 20 = .ok (.ifCond .eq 7, 3) := by decide +kernel
theorem dX5_opens_23 : decode cX5_opens 23 = .ok (.iconst 1, 1) := by decide +kernel
theorem dX5_opens_24 : decode cX5_opens 24 = .ok (.goto 4, 3) := by decide +kernel
theorem dX5_opens_27 : decode cX5_opens 27 = .ok (.iconst 0, 1) := by decide +kernel
theorem dX5_opens_28 : decode cX5_opens 28 = .ok (.ireturn, 1) := by decide +kernel
set_option maxRecDepth 20000 in
theorem dX5_noteAsk_0 : decode cX5_noteAsk 0 = .ok (.iload 4, 2) := by decide +kernel
theorem dX5_noteAsk_2 : decode cX5_noteAsk 2 = .ok (.ifCond .ne 15, 3) := by decide +kernel
theorem dX5_noteAsk_5 : decode cX5_noteAsk 5 = .ok (.aload_n 0, 1) := by decide +kernel
theorem dX5_noteAsk_6 : decode cX5_noteAsk 6 = .ok (.dup, 1) := by decide +kernel
theorem dX5_noteAsk_7 : decode cX5_noteAsk 7 = .ok (.getfield 58, 3) := by decide +kernel
theorem dX5_noteAsk_10 : decode cX5_noteAsk 10 = .ok (.iconst 1, 1) := by decide +kernel
theorem dX5_noteAsk_11 : decode cX5_noteAsk 11 = .ok (.iadd, 1) := by decide +kernel
theorem dX5_noteAsk_12 : decode cX5_noteAsk 12 = .ok (.putfield 58, 3) := by decide +kernel
theorem dX5_noteAsk_15 : decode cX5_noteAsk 15 = .ok (.iconst 0, 1) := by decide +kernel
theorem dX5_noteAsk_16 : decode cX5_noteAsk 16 = .ok (.ireturn, 1) := by decide +kernel
theorem dX5_noteAsk_17 : decode cX5_noteAsk 17 = .ok (.aload_n 0, 1) := by decide +kernel
theorem dX5_noteAsk_18 : decode cX5_noteAsk 18 = .ok (.dup, 1) := by decide +kernel
theorem dX5_noteAsk_19 : decode cX5_noteAsk 19 = .ok (.getfield 55, 3) := by decide +kernel
theorem dX5_noteAsk_22 : decode cX5_noteAsk 22 = .ok (.iconst 1, 1) := by decide +kernel
theorem dX5_noteAsk_23 : decode cX5_noteAsk 23 = .ok (.iadd, 1) := by decide +kernel
theorem dX5_noteAsk_24 : decode cX5_noteAsk 24 = .ok (.putfield 55, 3) := by decide +kernel
theorem dX5_noteAsk_27 : decode cX5_noteAsk 27 = .ok (.aload_n 1, 1) := by decide +kernel
theorem dX5_noteAsk_28 : decode cX5_noteAsk 28 = .ok (.iload_n 2, 1) := by decide +kernel
theorem dX5_noteAsk_29 : decode cX5_noteAsk 29 = .ok (.iload_n 3, 1) := by decide +kernel
theorem dX5_noteAsk_30 : decode cX5_noteAsk 30 = .ok (.aload_n 0, 1) := by decide +kernel
theorem dX5_noteAsk_31 : decode cX5_noteAsk 31 = .ok (.getfield 46, 3) := by decide +kernel
theorem dX5_noteAsk_34 : decode cX5_noteAsk 34 = .ok (.invokevirtual 254, 3) := by decide +kernel
theorem dX5_noteAsk_37 : decode cX5_noteAsk 37 = .ok (.iconst 1, 1) := by decide +kernel
theorem dX5_noteAsk_38 : decode cX5_noteAsk 38 = .ok (.ireturn, 1) := by decide +kernel
set_option maxRecDepth 20000 in
theorem dX5_nextOfPlan_0 : decode cX5_nextOfPlan 0 = .ok (.iconst (-1), 1) := by decide +kernel
theorem dX5_nextOfPlan_1 : decode cX5_nextOfPlan 1 = .ok (.istore_n 2, 1) := by decide +kernel
theorem dX5_nextOfPlan_2 : decode cX5_nextOfPlan 2 = .ok (.iconst 0, 1) := by decide +kernel
theorem dX5_nextOfPlan_3 : decode cX5_nextOfPlan 3 = .ok (.istore_n 3, 1) := by decide +kernel
theorem dX5_nextOfPlan_4 : decode cX5_nextOfPlan 4 = .ok (.iload_n 3, 1) := by decide +kernel
theorem dX5_nextOfPlan_5 : decode cX5_nextOfPlan 5 = .ok (.aload_n 0, 1) := by decide +kernel
theorem dX5_nextOfPlan_6 : decode cX5_nextOfPlan 6 = .ok (.getfield 42, 3) := by decide +kernel
theorem dX5_nextOfPlan_9 : decode cX5_nextOfPlan 9 = .ok (.if_icmp .ge 73, 3) := by decide +kernel
theorem dX5_nextOfPlan_12 : decode cX5_nextOfPlan 12 = .ok (.iload_n 1, 1) := by decide +kernel
theorem dX5_nextOfPlan_13 : decode cX5_nextOfPlan 13 = .ok (.iload_n 3, 1) := by decide +kernel
theorem dX5_nextOfPlan_14 : decode cX5_nextOfPlan 14 = .ok (.invokestatic 135, 3) := by decide +kernel
theorem dX5_nextOfPlan_17 : decode cX5_nextOfPlan 17 = .ok (.ifCond .ne 23, 3) := by decide +kernel
theorem dX5_nextOfPlan_20 : decode cX5_nextOfPlan 20 = .ok (.aload_n 0, 1) := by decide +kernel
theorem dX5_nextOfPlan_21 : decode cX5_nextOfPlan 21 = .ok (.getfield 24, 3) := by decide +kernel
theorem dX5_nextOfPlan_24 : decode cX5_nextOfPlan 24 = .ok (.getfield 258, 3) := by decide +kernel
theorem dX5_nextOfPlan_27 : decode cX5_nextOfPlan 27 = .ok (.iload_n 3, 1) := by decide +kernel
theorem dX5_nextOfPlan_28 : decode cX5_nextOfPlan 28 = .ok (.iaload, 1) := by decide +kernel
theorem dX5_nextOfPlan_29 : decode cX5_nextOfPlan 29 = .ok (.iload_n 1, 1) := by decide +kernel
theorem dX5_nextOfPlan_30 : decode cX5_nextOfPlan 30 = .ok (.iconst (-1), 1) := by decide +kernel
theorem dX5_nextOfPlan_31 : decode cX5_nextOfPlan 31 = .ok (.ixor, 1) := by decide +kernel
theorem dX5_nextOfPlan_32 : decode cX5_nextOfPlan 32 = .ok (.iand, 1) := by decide +kernel
theorem dX5_nextOfPlan_33 : decode cX5_nextOfPlan 33 = .ok (.ifCond .ne 7, 3) := by decide +kernel
theorem dX5_nextOfPlan_36 : decode cX5_nextOfPlan 36 = .ok (.iconst 1, 1) := by decide +kernel
theorem dX5_nextOfPlan_37 : decode cX5_nextOfPlan 37 = .ok (.goto 4, 3) := by decide +kernel
theorem dX5_nextOfPlan_40 : decode cX5_nextOfPlan 40 = .ok (.iconst 0, 1) := by decide +kernel
theorem dX5_nextOfPlan_41 : decode cX5_nextOfPlan 41 = .ok (.istore 4, 2) := by decide +kernel
theorem dX5_nextOfPlan_43 : decode cX5_nextOfPlan 43 = .ok (.iload 4, 2) := by decide +kernel
theorem dX5_nextOfPlan_45 : decode cX5_nextOfPlan 45 = .ok (.ifCond .eq 31, 3) := by decide +kernel
theorem dX5_nextOfPlan_48 : decode cX5_nextOfPlan 48 = .ok (.iload_n 2, 1) := by decide +kernel
theorem dX5_nextOfPlan_49 : decode cX5_nextOfPlan 49 = .ok (.iconst (-1), 1) := by decide +kernel
theorem dX5_nextOfPlan_50 : decode cX5_nextOfPlan 50 = .ok (.if_icmp .eq 24, 3) := by decide +kernel
theorem dX5_nextOfPlan_53 : decode cX5_nextOfPlan 53 = .ok (.aload_n 0, 1) := by decide +kernel
theorem dX5_nextOfPlan_54 : decode cX5_nextOfPlan 54 = .ok (.getfield 11, 3) := by decide +kernel
theorem dX5_nextOfPlan_57 : decode cX5_nextOfPlan 57 = .ok (.iload_n 3, 1) := by decide +kernel
theorem dX5_nextOfPlan_58 : decode cX5_nextOfPlan 58 = .ok (.aaload, 1) := by decide +kernel
theorem dX5_nextOfPlan_59 : decode cX5_nextOfPlan 59 = .ok (.invokevirtual 261, 3) := by decide +kernel
theorem dX5_nextOfPlan_62 : decode cX5_nextOfPlan 62 = .ok (.aload_n 0, 1) := by decide +kernel
theorem dX5_nextOfPlan_63 : decode cX5_nextOfPlan 63 = .ok (.getfield 11, 3) := by decide +kernel
theorem dX5_nextOfPlan_66 : decode cX5_nextOfPlan 66 = .ok (.iload_n 2, 1) := by decide +kernel
theorem dX5_nextOfPlan_67 : decode cX5_nextOfPlan 67 = .ok (.aaload, 1) := by decide +kernel
theorem dX5_nextOfPlan_68 : decode cX5_nextOfPlan 68 = .ok (.invokevirtual 261, 3) := by decide +kernel
theorem dX5_nextOfPlan_71 : decode cX5_nextOfPlan 71 = .ok (.if_icmp .ge 5, 3) := by decide +kernel
theorem dX5_nextOfPlan_74 : decode cX5_nextOfPlan 74 = .ok (.iload_n 3, 1) := by decide +kernel
theorem dX5_nextOfPlan_75 : decode cX5_nextOfPlan 75 = .ok (.istore_n 2, 1) := by decide +kernel
theorem dX5_nextOfPlan_76 : decode cX5_nextOfPlan 76 = .ok (.iinc 3 1, 3) := by decide +kernel
theorem dX5_nextOfPlan_79 : decode cX5_nextOfPlan 79 = .ok (.goto (-75), 3) := by decide +kernel
theorem dX5_nextOfPlan_82 : decode cX5_nextOfPlan 82 = .ok (.iload_n 2, 1) := by decide +kernel
theorem dX5_nextOfPlan_83 : decode cX5_nextOfPlan 83 = .ok (.ireturn, 1) := by decide +kernel
set_option maxRecDepth 20000 in
theorem dX5_turnsGoingOn_0 : decode cX5_turnsGoingOn 0 = .ok (.iconst 0, 1) := by decide +kernel
theorem dX5_turnsGoingOn_1 : decode cX5_turnsGoingOn 1 = .ok (.istore_n 1, 1) := by decide +kernel
theorem dX5_turnsGoingOn_2 : decode cX5_turnsGoingOn 2 = .ok (.iconst 0, 1) := by decide +kernel
theorem dX5_turnsGoingOn_3 : decode cX5_turnsGoingOn 3 = .ok (.istore_n 2, 1) := by decide +kernel
theorem dX5_turnsGoingOn_4 : decode cX5_turnsGoingOn 4 = .ok (.iload_n 2, 1) := by decide +kernel
theorem dX5_turnsGoingOn_5 : decode cX5_turnsGoingOn 5 = .ok (.aload_n 0, 1) := by decide +kernel
theorem dX5_turnsGoingOn_6 : decode cX5_turnsGoingOn 6 = .ok (.getfield 42, 3) := by decide +kernel
theorem dX5_turnsGoingOn_9 : decode cX5_turnsGoingOn 9 = .ok (.if_icmp .ge 29, 3) := by decide +kernel
theorem dX5_turnsGoingOn_12 : decode cX5_turnsGoingOn 12 = .ok (.iload_n 1, 1) := by decide +kernel
theorem dX5_turnsGoingOn_13 : decode cX5_turnsGoingOn 13 = .ok (.aload_n 0, 1) := by decide +kernel
theorem dX5_turnsGoingOn_14 : decode cX5_turnsGoingOn 14 = .ok (.getfield 17, 3) := by decide +kernel
theorem dX5_turnsGoingOn_17 : decode cX5_turnsGoingOn 17 = .ok (.iload_n 2, 1) := by decide +kernel
theorem dX5_turnsGoingOn_18 : decode cX5_turnsGoingOn 18 = .ok (.aaload, 1) := by decide +kernel
theorem dX5_turnsGoingOn_19 : decode cX5_turnsGoingOn 19 = .ok (.invokevirtual 105, 3) := by decide +kernel
theorem dX5_turnsGoingOn_22 : decode cX5_turnsGoingOn 22 = .ok (.ifCond .eq 7, 3) := by decide +kernel
theorem dX5_turnsGoingOn_25 : decode cX5_turnsGoingOn 25 = .ok (.iconst 1, 1) := by decide +kernel
theorem dX5_turnsGoingOn_26 : decode cX5_turnsGoingOn 26 = .ok (.goto 4, 3) := by decide +kernel
theorem dX5_turnsGoingOn_29 : decode cX5_turnsGoingOn 29 = .ok (.iconst 0, 1) := by decide +kernel
theorem dX5_turnsGoingOn_30 : decode cX5_turnsGoingOn 30 = .ok (.iadd, 1) := by decide +kernel
theorem dX5_turnsGoingOn_31 : decode cX5_turnsGoingOn 31 = .ok (.istore_n 1, 1) := by decide +kernel
theorem dX5_turnsGoingOn_32 : decode cX5_turnsGoingOn 32 = .ok (.iinc 2 1, 3) := by decide +kernel
theorem dX5_turnsGoingOn_35 : decode cX5_turnsGoingOn 35 = .ok (.goto (-31), 3) := by decide +kernel
theorem dX5_turnsGoingOn_38 : decode cX5_turnsGoingOn 38 = .ok (.iload_n 1, 1) := by decide +kernel
theorem dX5_turnsGoingOn_39 : decode cX5_turnsGoingOn 39 = .ok (.ireturn, 1) := by decide +kernel
set_option maxRecDepth 20000 in
theorem dX5_lettersUnanswered_0 : decode cX5_lettersUnanswered 0 = .ok (.iconst 0, 1) := by decide +kernel
theorem dX5_lettersUnanswered_1 : decode cX5_lettersUnanswered 1 = .ok (.istore_n 1, 1) := by decide +kernel
theorem dX5_lettersUnanswered_2 : decode cX5_lettersUnanswered 2 = .ok (.iconst 0, 1) := by decide +kernel
theorem dX5_lettersUnanswered_3 : decode cX5_lettersUnanswered 3 = .ok (.istore_n 2, 1) := by decide +kernel
theorem dX5_lettersUnanswered_4 : decode cX5_lettersUnanswered 4 = .ok (.iload_n 2, 1) := by decide +kernel
theorem dX5_lettersUnanswered_5 : decode cX5_lettersUnanswered 5 = .ok (.aload_n 0, 1) := by decide +kernel
theorem dX5_lettersUnanswered_6 : decode cX5_lettersUnanswered 6 = .ok (.getfield 42, 3) := by decide +kernel
theorem dX5_lettersUnanswered_9 : decode cX5_lettersUnanswered 9 = .ok (.if_icmp .ge 21, 3) := by decide +kernel
theorem dX5_lettersUnanswered_12 : decode cX5_lettersUnanswered 12 = .ok (.iload_n 1, 1) := by decide +kernel
theorem dX5_lettersUnanswered_13 : decode cX5_lettersUnanswered 13 = .ok (.aload_n 0, 1) := by decide +kernel
theorem dX5_lettersUnanswered_14 : decode cX5_lettersUnanswered 14 = .ok (.getfield 17, 3) := by decide +kernel
theorem dX5_lettersUnanswered_17 : decode cX5_lettersUnanswered 17 = .ok (.iload_n 2, 1) := by decide +kernel
theorem dX5_lettersUnanswered_18 : decode cX5_lettersUnanswered 18 = .ok (.aaload, 1) := by decide +kernel
theorem dX5_lettersUnanswered_19 : decode cX5_lettersUnanswered 19 = .ok (.invokevirtual 174, 3) := by decide +kernel
theorem dX5_lettersUnanswered_22 : decode cX5_lettersUnanswered 22 = .ok (.iadd, 1) := by decide +kernel
theorem dX5_lettersUnanswered_23 : decode cX5_lettersUnanswered 23 = .ok (.istore_n 1, 1) := by decide +kernel
theorem dX5_lettersUnanswered_24 : decode cX5_lettersUnanswered 24 = .ok (.iinc 2 1, 3) := by decide +kernel
theorem dX5_lettersUnanswered_27 : decode cX5_lettersUnanswered 27 = .ok (.goto (-23), 3) := by decide +kernel
theorem dX5_lettersUnanswered_30 : decode cX5_lettersUnanswered 30 = .ok (.iload_n 1, 1) := by decide +kernel
theorem dX5_lettersUnanswered_31 : decode cX5_lettersUnanswered 31 = .ok (.ireturn, 1) := by decide +kernel
set_option maxRecDepth 20000 in
theorem dX5_secretsPastLife_0 : decode cX5_secretsPastLife 0 = .ok (.iconst 0, 1) := by decide +kernel
theorem dX5_secretsPastLife_1 : decode cX5_secretsPastLife 1 = .ok (.istore_n 1, 1) := by decide +kernel
theorem dX5_secretsPastLife_2 : decode cX5_secretsPastLife 2 = .ok (.iconst 0, 1) := by decide +kernel
theorem dX5_secretsPastLife_3 : decode cX5_secretsPastLife 3 = .ok (.istore_n 2, 1) := by decide +kernel
theorem dX5_secretsPastLife_4 : decode cX5_secretsPastLife 4 = .ok (.iload_n 2, 1) := by decide +kernel
theorem dX5_secretsPastLife_5 : decode cX5_secretsPastLife 5 = .ok (.aload_n 0, 1) := by decide +kernel
theorem dX5_secretsPastLife_6 : decode cX5_secretsPastLife 6 = .ok (.getfield 42, 3) := by decide +kernel
theorem dX5_secretsPastLife_9 : decode cX5_secretsPastLife 9 = .ok (.if_icmp .ge 43, 3) := by decide +kernel
theorem dX5_secretsPastLife_12 : decode cX5_secretsPastLife 12 = .ok (.iload_n 1, 1) := by decide +kernel
theorem dX5_secretsPastLife_13 : decode cX5_secretsPastLife 13 = .ok (.aload_n 0, 1) := by decide +kernel
theorem dX5_secretsPastLife_14 : decode cX5_secretsPastLife 14 = .ok (.getfield 46, 3) := by decide +kernel
theorem dX5_secretsPastLife_17 : decode cX5_secretsPastLife 17 = .ok (.aload_n 0, 1) := by decide +kernel
theorem dX5_secretsPastLife_18 : decode cX5_secretsPastLife 18 = .ok (.getfield 11, 3) := by decide +kernel
theorem dX5_secretsPastLife_21 : decode cX5_secretsPastLife 21 = .ok (.iload_n 2, 1) := by decide +kernel
theorem dX5_secretsPastLife_22 : decode cX5_secretsPastLife 22 = .ok (.aaload, 1) := by decide +kernel
theorem dX5_secretsPastLife_23 : decode cX5_secretsPastLife 23 = .ok (.invokevirtual 164, 3) := by decide +kernel
theorem dX5_secretsPastLife_26 : decode cX5_secretsPastLife 26 = .ok (.isub, 1) := by decide +kernel
theorem dX5_secretsPastLife_27 : decode cX5_secretsPastLife 27 = .ok (.aload_n 0, 1) := by decide +kernel
theorem dX5_secretsPastLife_28 : decode cX5_secretsPastLife 28 = .ok (.getfield 11, 3) := by decide +kernel
theorem dX5_secretsPastLife_31 : decode cX5_secretsPastLife 31 = .ok (.iload_n 2, 1) := by decide +kernel
theorem dX5_secretsPastLife_32 : decode cX5_secretsPastLife 32 = .ok (.aaload, 1) := by decide +kernel
theorem dX5_secretsPastLife_33 : decode cX5_secretsPastLife 33 = .ok (.getfield 155, 3) := by decide +kernel
theorem dX5_secretsPastLife_36 : decode cX5_secretsPastLife 36 = .ok (.if_icmp .le 7, 3) := by decide +kernel
theorem dX5_secretsPastLife_39 : decode cX5_secretsPastLife 39 = .ok (.iconst 1, 1) := by decide +kernel
theorem dX5_secretsPastLife_40 : decode cX5_secretsPastLife 40 = .ok (.goto 4, 3) := by decide +kernel
theorem dX5_secretsPastLife_43 : decode cX5_secretsPastLife 43 = .ok (.iconst 0, 1) := by decide +kernel
theorem dX5_secretsPastLife_44 : decode cX5_secretsPastLife 44 = .ok (.iadd, 1) := by decide +kernel
theorem dX5_secretsPastLife_45 : decode cX5_secretsPastLife 45 = .ok (.istore_n 1, 1) := by decide +kernel
theorem dX5_secretsPastLife_46 : decode cX5_secretsPastLife 46 = .ok (.iinc 2 1, 3) := by decide +kernel
theorem dX5_secretsPastLife_49 : decode cX5_secretsPastLife 49 = .ok (.goto (-45), 3) := by decide +kernel
theorem dX5_secretsPastLife_52 : decode cX5_secretsPastLife 52 = .ok (.iload_n 1, 1) := by decide +kernel
theorem dX5_secretsPastLife_53 : decode cX5_secretsPastLife 53 = .ok (.ireturn, 1) := by decide +kernel
theorem dX6_init_0 : decode cX6_init 0 = .ok (.aload_n 0, 1) := by decide +kernel
theorem dX6_init_1 : decode cX6_init 1 = .ok (.invokespecial 1, 3) := by decide +kernel
theorem dX6_init_4 : decode cX6_init 4 = .ok (.aload_n 0, 1) := by decide +kernel
theorem dX6_init_5 : decode cX6_init 5 = .ok (.bipush 10, 2) := by decide +kernel
theorem dX6_init_7 : decode cX6_init 7 = .ok (.putfield 7, 3) := by decide +kernel
theorem dX6_init_10 : decode cX6_init 10 = .ok (.aload_n 0, 1) := by decide +kernel
theorem dX6_init_11 : decode cX6_init 11 = .ok (.bipush 100, 2) := by decide +kernel
theorem dX6_init_13 : decode cX6_init 13 = .ok (.putfield 13, 3) := by decide +kernel
theorem dX6_init_16 : decode cX6_init 16 = .ok (.aload_n 0, 1) := by decide +kernel
theorem dX6_init_17 : decode cX6_init 17 = .ok (.bipush 12, 2) := by decide +kernel
theorem dX6_init_19 : decode cX6_init 19 = .ok (.newarray .int, 2) := by decide +kernel
theorem dX6_init_21 : decode cX6_init 21 = .ok (.putfield 16, 3) := by decide +kernel
theorem dX6_init_24 : decode cX6_init 24 = .ok (.aload_n 0, 1) := by decide +kernel
theorem dX6_init_25 : decode cX6_init 25 = .ok (.bipush 12, 2) := by decide +kernel
theorem dX6_init_27 : decode cX6_init 27 = .ok (.newarray .int, 2) := by decide +kernel
theorem dX6_init_29 : decode cX6_init 29 = .ok (.putfield 20, 3) := by decide +kernel
theorem dX6_init_32 : decode cX6_init 32 = .ok (.aload_n 0, 1) := by decide +kernel
theorem dX6_init_33 : decode cX6_init 33 = .ok (.bipush 12, 2) := by decide +kernel
theorem dX6_init_35 : decode cX6_init 35 = .ok (.newarray .int, 2) := by decide +kernel
theorem dX6_init_37 : decode cX6_init 37 = .ok (.putfield 23, 3) := by decide +kernel
theorem dX6_init_40 : decode cX6_init 40 = .ok (.aload_n 0, 1) := by decide +kernel
theorem dX6_init_41 : decode cX6_init 41 = .ok (.bipush 12, 2) := by decide +kernel
theorem dX6_init_43 : decode cX6_init 43 = .ok (.newarray .int, 2) := by decide +kernel
theorem dX6_init_45 : decode cX6_init 45 = .ok (.putfield 26, 3) := by decide +kernel
theorem dX6_init_48 : decode cX6_init 48 = .ok (.aload_n 0, 1) := by decide +kernel
theorem dX6_init_49 : decode cX6_init 49 = .ok (.bipush 12, 2) := by decide +kernel
theorem dX6_init_51 : decode cX6_init 51 = .ok (.newarray .int, 2) := by decide +kernel
theorem dX6_init_53 : decode cX6_init 53 = .ok (.putfield 29, 3) := by decide +kernel
theorem dX6_init_56 : decode cX6_init 56 = .ok (.aload_n 0, 1) := by decide +kernel
theorem dX6_init_57 : decode cX6_init 57 = .ok (.bipush 12, 2) := by decide +kernel
theorem dX6_init_59 : decode cX6_init 59 = .ok (.newarray .int, 2) := by decide +kernel
theorem dX6_init_61 : decode cX6_init 61 = .ok (.putfield 32, 3) := by decide +kernel
theorem dX6_init_64 : decode cX6_init 64 = .ok (.aload_n 0, 1) := by decide +kernel
theorem dX6_init_65 : decode cX6_init 65 = .ok (.bipush 12, 2) := by decide +kernel
theorem dX6_init_67 : decode cX6_init 67 = .ok (.newarray .int, 2) := by decide +kernel
theorem dX6_init_69 : decode cX6_init 69 = .ok (.putfield 35, 3) := by decide +kernel
theorem dX6_init_72 : decode cX6_init 72 = .ok (.aload_n 0, 1) := by decide +kernel
theorem dX6_init_73 : decode cX6_init 73 = .ok (.bipush 12, 2) := by decide +kernel
theorem dX6_init_75 : decode cX6_init 75 = .ok (.newarray .int, 2) := by decide +kernel
theorem dX6_init_77 : decode cX6_init 77 = .ok (.putfield 38, 3) := by decide +kernel
theorem dX6_init_80 : decode cX6_init 80 = .ok (.aload_n 0, 1) := by decide +kernel
theorem dX6_init_81 : decode cX6_init 81 = .ok (.bipush 12, 2) := by decide +kernel
theorem dX6_init_83 : decode cX6_init 83 = .ok (.newarray .int, 2) := by decide +kernel
theorem dX6_init_85 : decode cX6_init 85 = .ok (.putfield 41, 3) := by decide +kernel
theorem dX6_init_88 : decode cX6_init 88 = .ok (.aload_n 0, 1) := by decide +kernel
theorem dX6_init_89 : decode cX6_init 89 = .ok (.bipush 12, 2) := by decide +kernel
theorem dX6_init_91 : decode cX6_init 91 = .ok (.newarray .int, 2) := by decide +kernel
theorem dX6_init_93 : decode cX6_init 93 = .ok (.putfield 44, 3) := by decide +kernel
theorem dX6_init_96 : decode cX6_init 96 = .ok (.aload_n 0, 1) := by decide +kernel
theorem dX6_init_97 : decode cX6_init 97 = .ok (.bipush 12, 2) := by decide +kernel
theorem dX6_init_99 : decode cX6_init 99 = .ok (.newarray .int, 2) := by decide +kernel
theorem dX6_init_101 : decode cX6_init 101 = .ok (.putfield 47, 3) := by decide +kernel
theorem dX6_init_104 : decode cX6_init 104 = .ok (.aload_n 0, 1) := by decide +kernel
theorem dX6_init_105 : decode cX6_init 105 = .ok (.bipush 12, 2) := by decide +kernel
theorem dX6_init_107 : decode cX6_init 107 = .ok (.newarray .int, 2) := by decide +kernel
theorem dX6_init_109 : decode cX6_init 109 = .ok (.putfield 50, 3) := by decide +kernel
theorem dX6_init_112 : decode cX6_init 112 = .ok (.aload_n 0, 1) := by decide +kernel
theorem dX6_init_113 : decode cX6_init 113 = .ok (.bipush 12, 2) := by decide +kernel
theorem dX6_init_115 : decode cX6_init 115 = .ok (.newarray .boolean, 2) := by decide +kernel
theorem dX6_init_117 : decode cX6_init 117 = .ok (.putfield 53, 3) := by decide +kernel
theorem dX6_init_120 : decode cX6_init 120 = .ok (.aload_n 0, 1) := by decide +kernel
theorem dX6_init_121 : decode cX6_init 121 = .ok (.sipush 144, 3) := by decide +kernel
theorem dX6_init_124 : decode cX6_init 124 = .ok (.newarray .boolean, 2) := by decide +kernel
theorem dX6_init_126 : decode cX6_init 126 = .ok (.putfield 57, 3) := by decide +kernel
theorem dX6_init_129 : decode cX6_init 129 = .ok (.aload_n 0, 1) := by decide +kernel
theorem dX6_init_130 : decode cX6_init 130 = .ok (.bipush 17, 2) := by decide +kernel
theorem dX6_init_132 : decode cX6_init 132 = .ok (.newarray .boolean, 2) := by decide +kernel
theorem dX6_init_134 : decode cX6_init 134 = .ok (.putfield 60, 3) := by decide +kernel
theorem dX6_init_137 : decode cX6_init 137 = .ok (.aload_n 0, 1) := by decide +kernel
theorem dX6_init_138 : decode cX6_init 138 = .ok (.bipush 120, 2) := by decide +kernel
theorem dX6_init_140 : decode cX6_init 140 = .ok (.newarray .int, 2) := by decide +kernel
theorem dX6_init_142 : decode cX6_init 142 = .ok (.putfield 63, 3) := by decide +kernel
theorem dX6_init_145 : decode cX6_init 145 = .ok (.aload_n 0, 1) := by decide +kernel
theorem dX6_init_146 : decode cX6_init 146 = .ok (.bipush 72, 2) := by decide +kernel
theorem dX6_init_148 : decode cX6_init 148 = .ok (.newarray .int, 2) := by decide +kernel
theorem dX6_init_150 : decode cX6_init 150 = .ok (.putfield 66, 3) := by decide +kernel
theorem dX6_init_153 : decode cX6_init 153 = .ok (.aload_n 0, 1) := by decide +kernel
theorem dX6_init_154 : decode cX6_init 154 = .ok (.bipush 72, 2) := by decide +kernel
theorem dX6_init_156 : decode cX6_init 156 = .ok (.newarray .int, 2) := by decide +kernel
theorem dX6_init_158 : decode cX6_init 158 = .ok (.putfield 69, 3) := by decide +kernel
theorem dX6_init_161 : decode cX6_init 161 = .ok (.aload_n 0, 1) := by decide +kernel
theorem dX6_init_162 : decode cX6_init 162 = .ok (.bipush 16, 2) := by decide +kernel
theorem dX6_init_164 : decode cX6_init 164 = .ok (.newarray .int, 2) := by decide +kernel
theorem dX6_init_166 : decode cX6_init 166 = .ok (.putfield 72, 3) := by decide +kernel
theorem dX6_init_169 : decode cX6_init 169 = .ok (.aload_n 0, 1) := by decide +kernel
theorem dX6_init_170 : decode cX6_init 170 = .ok (.bipush 72, 2) := by decide +kernel
theorem dX6_init_172 : decode cX6_init 172 = .ok (.newarray .int, 2) := by decide +kernel
theorem dX6_init_174 : decode cX6_init 174 = .ok (.putfield 75, 3) := by decide +kernel
theorem dX6_init_177 : decode cX6_init 177 = .ok (.aload_n 0, 1) := by decide +kernel
theorem dX6_init_178 : decode cX6_init 178 = .ok (.bipush 72, 2) := by decide +kernel
theorem dX6_init_180 : decode cX6_init 180 = .ok (.newarray .int, 2) := by decide +kernel
theorem dX6_init_182 : decode cX6_init 182 = .ok (.putfield 78, 3) := by decide +kernel
theorem dX6_init_185 : decode cX6_init 185 = .ok (.aload_n 0, 1) := by decide +kernel
theorem dX6_init_186 : decode cX6_init 186 = .ok (.sipush 600, 3) := by decide +kernel
theorem dX6_init_189 : decode cX6_init 189 = .ok (.newarray .int, 2) := by decide +kernel
theorem dX6_init_191 : decode cX6_init 191 = .ok (.putfield 81, 3) := by decide +kernel
theorem dX6_init_194 : decode cX6_init 194 = .ok (.aload_n 0, 1) := by decide +kernel
theorem dX6_init_195 : decode cX6_init 195 = .ok (.sipush 600, 3) := by decide +kernel
theorem dX6_init_198 : decode cX6_init 198 = .ok (.newarray .int, 2) := by decide +kernel
theorem dX6_init_200 : decode cX6_init 200 = .ok (.putfield 84, 3) := by decide +kernel
theorem dX6_init_203 : decode cX6_init 203 = .ok (.aload_n 0, 1) := by decide +kernel
theorem dX6_init_204 : decode cX6_init 204 = .ok (.sipush 600, 3) := by decide +kernel
theorem dX6_init_207 : decode cX6_init 207 = .ok (.newarray .int, 2) := by decide +kernel
theorem dX6_init_209 : decode cX6_init 209 = .ok (.putfield 87, 3) := by decide +kernel
theorem dX6_init_212 : decode cX6_init 212 = .ok (.aload_n 0, 1) := by decide +kernel
theorem dX6_init_213 : decode cX6_init 213 = .ok (.sipush 600, 3) := by decide +kernel
theorem dX6_init_216 : decode cX6_init 216 = .ok (.newarray .int, 2) := by decide +kernel
theorem dX6_init_218 : decode cX6_init 218 = .ok (.putfield 90, 3) := by decide +kernel
theorem dX6_init_221 : decode cX6_init 221 = .ok (.aload_n 0, 1) := by decide +kernel
theorem dX6_init_222 : decode cX6_init 222 = .ok (.sipush 600, 3) := by decide +kernel
theorem dX6_init_225 : decode cX6_init 225 = .ok (.newarray .int, 2) := by decide +kernel
theorem dX6_init_227 : decode cX6_init 227 = .ok (.putfield 93, 3) := by decide +kernel
theorem dX6_init_230 : decode cX6_init 230 = .ok (.aload_n 0, 1) := by decide +kernel
theorem dX6_init_231 : decode cX6_init 231 = .ok (.sipush 600, 3) := by decide +kernel
theorem dX6_init_234 : decode cX6_init 234 = .ok (.newarray .boolean, 2) := by decide +kernel
theorem dX6_init_236 : decode cX6_init 236 = .ok (.putfield 96, 3) := by decide +kernel
theorem dX6_init_239 : decode cX6_init 239 = .ok (.aload_n 0, 1) := by decide +kernel
theorem dX6_init_240 : decode cX6_init 240 = .ok (.sipush 500, 3) := by decide +kernel
theorem dX6_init_243 : decode cX6_init 243 = .ok (.newarray .int, 2) := by decide +kernel
theorem dX6_init_245 : decode cX6_init 245 = .ok (.putfield 99, 3) := by decide +kernel
theorem dX6_init_248 : decode cX6_init 248 = .ok (.aload_n 0, 1) := by decide +kernel
theorem dX6_init_249 : decode cX6_init 249 = .ok (.sipush 500, 3) := by decide +kernel
theorem dX6_init_252 : decode cX6_init 252 = .ok (.newarray .int, 2) := by decide +kernel
theorem dX6_init_254 : decode cX6_init 254 = .ok (.putfield 102, 3) := by decide +kernel
theorem dX6_init_257 : decode cX6_init 257 = .ok (.aload_n 0, 1) := by decide +kernel
theorem dX6_init_258 : decode cX6_init 258 = .ok (.sipush 500, 3) := by decide +kernel
theorem dX6_init_261 : decode cX6_init 261 = .ok (.newarray .int, 2) := by decide +kernel
theorem dX6_init_263 : decode cX6_init 263 = .ok (.putfield 105, 3) := by decide +kernel
theorem dX6_init_266 : decode cX6_init 266 = .ok (.aload_n 0, 1) := by decide +kernel
theorem dX6_init_267 : decode cX6_init 267 = .ok (.sipush 500, 3) := by decide +kernel
theorem dX6_init_270 : decode cX6_init 270 = .ok (.newarray .int, 2) := by decide +kernel
theorem dX6_init_272 : decode cX6_init 272 = .ok (.putfield 108, 3) := by decide +kernel
theorem dX6_init_275 : decode cX6_init 275 = .ok (.aload_n 0, 1) := by decide +kernel
theorem dX6_init_276 : decode cX6_init 276 = .ok (.sipush 500, 3) := by decide +kernel
theorem dX6_init_279 : decode cX6_init 279 = .ok (.newarray .boolean, 2) := by decide +kernel
theorem dX6_init_281 : decode cX6_init 281 = .ok (.putfield 111, 3) := by decide +kernel
theorem dX6_init_284 : decode cX6_init 284 = .ok (.aload_n 0, 1) := by decide +kernel
theorem dX6_init_285 : decode cX6_init 285 = .ok (.bipush 12, 2) := by decide +kernel
theorem dX6_init_287 : decode cX6_init 287 = .ok (.newarray .boolean, 2) := by decide +kernel
theorem dX6_init_289 : decode cX6_init 289 = .ok (.putfield 114, 3) := by decide +kernel
theorem dX6_init_292 : decode cX6_init 292 = .ok (.aload_n 0, 1) := by decide +kernel
theorem dX6_init_293 : decode cX6_init 293 = .ok (.bipush 12, 2) := by decide +kernel
theorem dX6_init_295 : decode cX6_init 295 = .ok (.newarray .boolean, 2) := by decide +kernel
theorem dX6_init_297 : decode cX6_init 297 = .ok (.putfield 117, 3) := by decide +kernel
theorem dX6_init_300 : decode cX6_init 300 = .ok (.iconst 0, 1) := by decide +kernel
theorem dX6_init_301 : decode cX6_init 301 = .ok (.istore_n 1, 1) := by decide +kernel
theorem dX6_init_302 : decode cX6_init 302 = .ok (.iload_n 1, 1) := by decide +kernel
theorem dX6_init_303 : decode cX6_init 303 = .ok (.bipush 16, 2) := by decide +kernel
theorem dX6_init_305 : decode cX6_init 305 = .ok (.if_icmp .ge 16, 3) := by decide +kernel
theorem dX6_init_308 : decode cX6_init 308 = .ok (.aload_n 0, 1) := by decide +kernel
theorem dX6_init_309 : decode cX6_init 309 = .ok (.getfield 72, 3) := by decide +kernel
theorem dX6_init_312 : decode cX6_init 312 = .ok (.iload_n 1, 1) := by decide +kernel
theorem dX6_init_313 : decode cX6_init 313 = .ok (.iconst 1, 1) := by decide +kernel
theorem dX6_init_314 : decode cX6_init 314 = .ok (.iastore, 1) := by decide +kernel
theorem dX6_init_315 : decode cX6_init 315 = .ok (.iinc 1 1, 3) := by decide +kernel
theorem dX6_init_318 : decode cX6_init 318 = .ok (.goto (-16), 3) := by decide +kernel
theorem dX6_init_321 : decode cX6_init 321 = .ok (.return_, 1) := by decide +kernel
theorem dX6_isIn_0 : decode cX6_isIn 0 = .ok (.iload_n 0, 1) := by decide +kernel
theorem dX6_isIn_1 : decode cX6_isIn 1 = .ok (.iload_n 1, 1) := by decide +kernel
theorem dX6_isIn_2 : decode cX6_isIn 2 = .ok (.if_icmp .lt 12, 3) := by decide +kernel
theorem dX6_isIn_5 : decode cX6_isIn 5 = .ok (.iload_n 0, 1) := by decide +kernel
theorem dX6_isIn_6 : decode cX6_isIn 6 = .ok (.iload_n 2, 1) := by decide +kernel
theorem dX6_isIn_7 : decode cX6_isIn 7 = .ok (.if_icmp .gt 7, 3) := by decide +kernel
theorem dX6_isIn_10 : decode cX6_isIn 10 = .ok (.iconst 1, 1) := by decide +kernel
theorem dX6_isIn_11 : decode cX6_isIn 11 = .ok (.goto 4, 3) := by decide +kernel
theorem dX6_isIn_14 : decode cX6_isIn 14 = .ok (.iconst 0, 1) := by decide +kernel
theorem dX6_isIn_15 : decode cX6_isIn 15 = .ok (.ireturn, 1) := by decide +kernel
theorem dX6_isSecret_0 : decode cX6_isSecret 0 = .ok (.iload_n 1, 1) := by decide +kernel
theorem dX6_isSecret_1 : decode cX6_isSecret 1 = .ok (.ifCond .lt 15, 3) := by decide +kernel
theorem dX6_isSecret_4 : decode cX6_isSecret 4 = .ok (.iload_n 1, 1) := by decide +kernel
theorem dX6_isSecret_5 : decode cX6_isSecret 5 = .ok (.aload_n 0, 1) := by decide +kernel
theorem dX6_isSecret_6 : decode cX6_isSecret 6 = .ok (.getfield 123, 3) := by decide +kernel
theorem dX6_isSecret_9 : decode cX6_isSecret 9 = .ok (.if_icmp .ge 7, 3) := by decide +kernel
theorem dX6_isSecret_12 : decode cX6_isSecret 12 = .ok (.iconst 1, 1) := by decide +kernel
theorem dX6_isSecret_13 : decode cX6_isSecret 13 = .ok (.goto 4, 3) := by decide +kernel
theorem dX6_isSecret_16 : decode cX6_isSecret 16 = .ok (.iconst 0, 1) := by decide +kernel
theorem dX6_isSecret_17 : decode cX6_isSecret 17 = .ok (.ireturn, 1) := by decide +kernel
theorem dX6_isOf_0 : decode cX6_isOf 0 = .ok (.iload_n 0, 1) := by decide +kernel
theorem dX6_isOf_1 : decode cX6_isOf 1 = .ok (.iload_n 1, 1) := by decide +kernel
theorem dX6_isOf_2 : decode cX6_isOf 2 = .ok (.ishr, 1) := by decide +kernel
theorem dX6_isOf_3 : decode cX6_isOf 3 = .ok (.iconst 1, 1) := by decide +kernel
theorem dX6_isOf_4 : decode cX6_isOf 4 = .ok (.iand, 1) := by decide +kernel
theorem dX6_isOf_5 : decode cX6_isOf 5 = .ok (.iconst 1, 1) := by decide +kernel
theorem dX6_isOf_6 : decode cX6_isOf 6 = .ok (.if_icmp .ne 7, 3) := by decide +kernel
theorem dX6_isOf_9 : decode cX6_isOf 9 = .ok (.iconst 1, 1) := by decide +kernel
theorem dX6_isOf_10 : decode cX6_isOf 10 = .ok (.goto 4, 3) := by decide +kernel
theorem dX6_isOf_13 : decode cX6_isOf 13 = .ok (.iconst 0, 1) := by decide +kernel
theorem dX6_isOf_14 : decode cX6_isOf 14 = .ok (.ireturn, 1) := by decide +kernel
set_option maxRecDepth 20000 in
theorem dX6_secret_0 : decode cX6_secret 0 = .ok (.aload_n 0, 1) := by decide +kernel
theorem dX6_secret_1 : decode cX6_secret 1 = .ok (.iconst 0, 1) := by decide +kernel
theorem dX6_secret_2 : decode cX6_secret 2 = .ok (.putfield 120, 3) := by decide +kernel
theorem dX6_secret_5 : decode cX6_secret 5 = .ok (.aload_n 0, 1) := by decide +kernel
theorem dX6_secret_6 : decode cX6_secret 6 = .ok (.getfield 123, 3) := by decide +kernel
theorem dX6_secret_9 : decode cX6_secret 9 = .ok (.bipush 12, 2) := by decide +kernel
theorem dX6_secret_11 : decode cX6_secret 11 = .ok (.if_icmp .eq 45, 3) := by decide +kernel
theorem dX6_secret_14 : decode cX6_secret 14 = .ok (.iload_n 1, 1) := by decide +kernel
theorem dX6_secret_15 : decode cX6_secret 15 = .ok (.iconst 0, 1) := by decide +kernel
theorem dX6_secret_16 : decode cX6_secret 16 = .ok (.iconst 1, 1) := by decide +kernel
theorem dX6_secret_17 : decode cX6_secret 17 = .ok (.invokestatic 126, 3) := by decide +kernel
theorem dX6_secret_20 : decode cX6_secret 20 = .ok (.ifCond .eq 36, 3) := by decide +kernel
theorem dX6_secret_23 : decode cX6_secret 23 = .ok (.iload_n 2, 1) := by decide +kernel
theorem dX6_secret_24 : decode cX6_secret 24 = .ok (.iconst 0, 1) := by decide +kernel
theorem dX6_secret_25 : decode cX6_secret 25 = .ok (.sipush 1023, 3) := by decide +kernel
theorem dX6_secret_28 : decode cX6_secret 28 = .ok (.invokestatic 126, 3) := by decide +kernel
theorem dX6_secret_31 : decode cX6_secret 31 = .ok (.ifCond .eq 25, 3) := by decide +kernel
theorem dX6_secret_34 : decode cX6_secret 34 = .ok (.iload_n 3, 1) := by decide +kernel
theorem dX6_secret_35 : decode cX6_secret 35 = .ok (.iconst 1, 1) := by decide +kernel
theorem dX6_secret_36 : decode cX6_secret 36 = .ok (.bipush 63, 2) := by decide +kernel
theorem dX6_secret_38 : decode cX6_secret 38 = .ok (.invokestatic 126, 3) := by decide +kernel
theorem dX6_secret_41 : decode cX6_secret 41 = .ok (.ifCond .eq 15, 3) := by decide +kernel
theorem dX6_secret_44 : decode cX6_secret 44 = .ok (.iload 4, 2) := by decide +kernel
theorem dX6_secret_46 : decode cX6_secret 46 = .ok (.iconst 1, 1) := by decide +kernel
theorem dX6_secret_47 : decode cX6_secret 47 = .ok (.sipush 10000, 3) := by decide +kernel
theorem dX6_secret_50 : decode cX6_secret 50 = .ok (.invokestatic 126, 3) := by decide +kernel
theorem dX6_secret_53 : decode cX6_secret 53 = .ok (.ifCond .ne 5, 3) := by decide +kernel
theorem dX6_secret_56 : decode cX6_secret 56 = .ok (.iconst (-1), 1) := by decide +kernel
theorem dX6_secret_57 : decode cX6_secret 57 = .ok (.ireturn, 1) := by decide +kernel
theorem dX6_secret_58 : decode cX6_secret 58 = .ok (.aload_n 0, 1) := by decide +kernel
theorem dX6_secret_59 : decode cX6_secret 59 = .ok (.getfield 123, 3) := by decide +kernel
theorem dX6_secret_62 : decode cX6_secret 62 = .ok (.istore 5, 2) := by decide +kernel
theorem dX6_secret_64 : decode cX6_secret 64 = .ok (.aload_n 0, 1) := by decide +kernel
theorem dX6_secret_65 : decode cX6_secret 65 = .ok (.getfield 16, 3) := by decide +kernel
theorem dX6_secret_68 : decode cX6_secret 68 = .ok (.iload 5, 2) := by decide +kernel
theorem dX6_secret_70 : decode cX6_secret 70 = .ok (.iload_n 1, 1) := by decide +kernel
theorem dX6_secret_71 : decode cX6_secret 71 = .ok (.iastore, 1) := by decide +kernel
theorem dX6_secret_72 : decode cX6_secret 72 = .ok (.aload_n 0, 1) := by decide +kernel
theorem dX6_secret_73 : decode cX6_secret 73 = .ok (.getfield 20, 3) := by decide +kernel
theorem dX6_secret_76 : decode cX6_secret 76 = .ok (.iload 5, 2) := by decide +kernel
theorem dX6_secret_78 : decode cX6_secret 78 = .ok (.iload_n 2, 1) := by decide +kernel
theorem dX6_secret_79 : decode cX6_secret 79 = .ok (.iastore, 1) := by decide +kernel
theorem dX6_secret_80 : decode cX6_secret 80 = .ok (.aload_n 0, 1) := by decide +kernel
theorem dX6_secret_81 : decode cX6_secret 81 = .ok (.getfield 23, 3) := by decide +kernel
theorem dX6_secret_84 : decode cX6_secret 84 = .ok (.iload 5, 2) := by decide +kernel
theorem dX6_secret_86 : decode cX6_secret 86 = .ok (.iload_n 3, 1) := by decide +kernel
theorem dX6_secret_87 : decode cX6_secret 87 = .ok (.iastore, 1) := by decide +kernel
theorem dX6_secret_88 : decode cX6_secret 88 = .ok (.aload_n 0, 1) := by decide +kernel
theorem dX6_secret_89 : decode cX6_secret 89 = .ok (.getfield 26, 3) := by decide +kernel
theorem dX6_secret_92 : decode cX6_secret 92 = .ok (.iload 5, 2) := by decide +kernel
theorem dX6_secret_94 : decode cX6_secret 94 = .ok (.iload 4, 2) := by decide +kernel
theorem dX6_secret_96 : decode cX6_secret 96 = .ok (.iastore, 1) := by decide +kernel
theorem dX6_secret_97 : decode cX6_secret 97 = .ok (.aload_n 0, 1) := by decide +kernel
theorem dX6_secret_98 : decode cX6_secret 98 = .ok (.getfield 32, 3) := by decide +kernel
theorem dX6_secret_101 : decode cX6_secret 101 = .ok (.iload 5, 2) := by decide +kernel
theorem dX6_secret_103 : decode cX6_secret 103 = .ok (.aload_n 0, 1) := by decide +kernel
theorem dX6_secret_104 : decode cX6_secret 104 = .ok (.getfield 130, 3) := by decide +kernel
theorem dX6_secret_107 : decode cX6_secret 107 = .ok (.iastore, 1) := by decide +kernel
theorem dX6_secret_108 : decode cX6_secret 108 = .ok (.iconst 0, 1) := by decide +kernel
theorem dX6_secret_109 : decode cX6_secret 109 = .ok (.istore 6, 2) := by decide +kernel
theorem dX6_secret_111 : decode cX6_secret 111 = .ok (.iload 6, 2) := by decide +kernel
theorem dX6_secret_113 : decode cX6_secret 113 = .ok (.bipush 6, 2) := by decide +kernel
theorem dX6_secret_115 : decode cX6_secret 115 = .ok (.if_icmp .ge 54, 3) := by decide +kernel
theorem dX6_secret_118 : decode cX6_secret 118 = .ok (.aload_n 0, 1) := by decide +kernel
theorem dX6_secret_119 : decode cX6_secret 119 = .ok (.getfield 66, 3) := by decide +kernel
theorem dX6_secret_122 : decode cX6_secret 122 = .ok (.bipush 6, 2) := by decide +kernel
theorem dX6_secret_124 : decode cX6_secret 124 = .ok (.iload 5, 2) := by decide +kernel
theorem dX6_secret_126 : decode cX6_secret 126 = .ok (.imul, 1) := by decide +kernel
theorem dX6_secret_127 : decode cX6_secret 127 = .ok (.iload 6, 2) := by decide +kernel
theorem dX6_secret_129 : decode cX6_secret 129 = .ok (.iadd, 1) := by decide +kernel
theorem dX6_secret_130 : decode cX6_secret 130 = .ok (.iconst 0, 1) := by decide +kernel
theorem dX6_secret_131 : decode cX6_secret 131 = .ok (.iastore, 1) := by decide +kernel
theorem dX6_secret_132 : decode cX6_secret 132 = .ok (.aload_n 0, 1) := by decide +kernel
theorem dX6_secret_133 : decode cX6_secret 133 = .ok (.getfield 75, 3) := by decide +kernel
theorem dX6_secret_136 : decode cX6_secret 136 = .ok (.bipush 6, 2) := by decide +kernel
theorem dX6_secret_138 : decode cX6_secret 138 = .ok (.iload 5, 2) := by decide +kernel
theorem dX6_secret_140 : decode cX6_secret 140 = .ok (.imul, 1) := by decide +kernel
theorem dX6_secret_141 : decode cX6_secret 141 = .ok (.iload 6, 2) := by decide +kernel
theorem dX6_secret_143 : decode cX6_secret 143 = .ok (.iadd, 1) := by decide +kernel
theorem dX6_secret_144 : decode cX6_secret 144 = .ok (.aload_n 0, 1) := by decide +kernel
theorem dX6_secret_145 : decode cX6_secret 145 = .ok (.getfield 130, 3) := by decide +kernel
theorem dX6_secret_148 : decode cX6_secret 148 = .ok (.iastore, 1) := by decide +kernel
theorem dX6_secret_149 : decode cX6_secret 149 = .ok (.aload_n 0, 1) := by decide +kernel
theorem dX6_secret_150 : decode cX6_secret 150 = .ok (.getfield 69, 3) := by decide +kernel
theorem dX6_secret_153 : decode cX6_secret 153 = .ok (.bipush 6, 2) := by decide +kernel
theorem dX6_secret_155 : decode cX6_secret 155 = .ok (.iload 5, 2) := by decide +kernel
theorem dX6_secret_157 : decode cX6_secret 157 = .ok (.imul, 1) := by decide +kernel
theorem dX6_secret_158 : decode cX6_secret 158 = .ok (.iload 6, 2) := by decide +kernel
theorem dX6_secret_160 : decode cX6_secret 160 = .ok (.iadd, 1) := by decide +kernel
theorem dX6_secret_161 : decode cX6_secret 161 = .ok (.iconst (-1), 1) := by decide +kernel
theorem dX6_secret_162 : decode cX6_secret 162 = .ok (.iastore, 1) := by decide +kernel
theorem dX6_secret_163 : decode cX6_secret 163 = .ok (.iinc 6 1, 3) := by decide +kernel
theorem dX6_secret_166 : decode cX6_secret 166 = .ok (.goto (-55), 3) := by decide +kernel
theorem dX6_secret_169 : decode cX6_secret 169 = .ok (.aload_n 0, 1) := by decide +kernel
theorem dX6_secret_170 : decode cX6_secret 170 = .ok (.dup, 1) := by decide +kernel
theorem dX6_secret_171 : decode cX6_secret 171 = .ok (.getfield 123, 3) := by decide +kernel
theorem dX6_secret_174 : decode cX6_secret 174 = .ok (.iconst 1, 1) := by decide +kernel
theorem dX6_secret_175 : decode cX6_secret 175 = .ok (.iadd, 1) := by decide +kernel
theorem dX6_secret_176 : decode cX6_secret 176 = .ok (.putfield 123, 3) := by decide +kernel
theorem dX6_secret_179 : decode cX6_secret 179 = .ok (.iload 5, 2) := by decide +kernel
theorem dX6_secret_181 : decode cX6_secret 181 = .ok (.ireturn, 1) := by decide +kernel
theorem dX6_hangsOn_0 : decode cX6_hangsOn 0 = .ok (.iconst 0, 1) := by decide +kernel
theorem dX6_hangsOn_1 : decode cX6_hangsOn 1 = .ok (.istore_n 3, 1) := by decide +kernel
theorem dX6_hangsOn_2 : decode cX6_hangsOn 2 = .ok (.iload_n 3, 1) := by decide +kernel
theorem dX6_hangsOn_3 : decode cX6_hangsOn 3 = .ok (.bipush 12, 2) := by decide +kernel
theorem dX6_hangsOn_5 : decode cX6_hangsOn 5 = .ok (.if_icmp .ge 16, 3) := by decide +kernel
theorem dX6_hangsOn_8 : decode cX6_hangsOn 8 = .ok (.aload_n 0, 1) := by decide +kernel
theorem dX6_hangsOn_9 : decode cX6_hangsOn 9 = .ok (.getfield 114, 3) := by decide +kernel
theorem dX6_hangsOn_12 : decode cX6_hangsOn 12 = .ok (.iload_n 3, 1) := by decide +kernel
theorem dX6_hangsOn_13 : decode cX6_hangsOn 13 = .ok (.iconst 0, 1) := by decide +kernel
theorem dX6_hangsOn_14 : decode cX6_hangsOn 14 = .ok (.bastore, 1) := by decide +kernel
theorem dX6_hangsOn_15 : decode cX6_hangsOn 15 = .ok (.iinc 3 1, 3) := by decide +kernel
theorem dX6_hangsOn_18 : decode cX6_hangsOn 18 = .ok (.goto (-16), 3) := by decide +kernel
theorem dX6_hangsOn_21 : decode cX6_hangsOn 21 = .ok (.iconst 1, 1) := by decide +kernel
theorem dX6_hangsOn_22 : decode cX6_hangsOn 22 = .ok (.istore_n 3, 1) := by decide +kernel
theorem dX6_hangsOn_23 : decode cX6_hangsOn 23 = .ok (.iload_n 3, 1) := by decide +kernel
theorem dX6_hangsOn_24 : decode cX6_hangsOn 24 = .ok (.ifCond .eq 99, 3) := by decide +kernel
theorem dX6_hangsOn_27 : decode cX6_hangsOn 27 = .ok (.iconst 0, 1) := by decide +kernel
theorem dX6_hangsOn_28 : decode cX6_hangsOn 28 = .ok (.istore_n 3, 1) := by decide +kernel
theorem dX6_hangsOn_29 : decode cX6_hangsOn 29 = .ok (.iconst 0, 1) := by decide +kernel
theorem dX6_hangsOn_30 : decode cX6_hangsOn 30 = .ok (.istore 4, 2) := by decide +kernel
theorem dX6_hangsOn_32 : decode cX6_hangsOn 32 = .ok (.iload 4, 2) := by decide +kernel
theorem dX6_hangsOn_34 : decode cX6_hangsOn 34 = .ok (.aload_n 0, 1) := by decide +kernel
theorem dX6_hangsOn_35 : decode cX6_hangsOn 35 = .ok (.getfield 123, 3) := by decide +kernel
theorem dX6_hangsOn_38 : decode cX6_hangsOn 38 = .ok (.if_icmp .ge 82, 3) := by decide +kernel
theorem dX6_hangsOn_41 : decode cX6_hangsOn 41 = .ok (.iconst 0, 1) := by decide +kernel
theorem dX6_hangsOn_42 : decode cX6_hangsOn 42 = .ok (.istore 5, 2) := by decide +kernel
theorem dX6_hangsOn_44 : decode cX6_hangsOn 44 = .ok (.iload 5, 2) := by decide +kernel
theorem dX6_hangsOn_46 : decode cX6_hangsOn 46 = .ok (.aload_n 0, 1) := by decide +kernel
theorem dX6_hangsOn_47 : decode cX6_hangsOn 47 = .ok (.getfield 123, 3) := by decide +kernel
theorem dX6_hangsOn_50 : decode cX6_hangsOn 50 = .ok (.if_icmp .ge 64, 3) := by decide +kernel
theorem dX6_hangsOn_53 : decode cX6_hangsOn 53 = .ok (.aload_n 0, 1) := by decide +kernel
theorem dX6_hangsOn_54 : decode cX6_hangsOn 54 = .ok (.getfield 57, 3) := by decide +kernel
theorem dX6_hangsOn_57 : decode cX6_hangsOn 57 = .ok (.bipush 12, 2) := by decide +kernel
theorem dX6_hangsOn_59 : decode cX6_hangsOn 59 = .ok (.iload 4, 2) := by decide +kernel
theorem dX6_hangsOn_61 : decode cX6_hangsOn 61 = .ok (.imul, 1) := by decide +kernel
theorem dX6_hangsOn_62 : decode cX6_hangsOn 62 = .ok (.iload 5, 2) := by decide +kernel
theorem dX6_hangsOn_64 : decode cX6_hangsOn 64 = .ok (.iadd, 1) := by decide +kernel
theorem dX6_hangsOn_65 : decode cX6_hangsOn 65 = .ok (.baload, 1) := by decide +kernel
theorem dX6_hangsOn_66 : decode cX6_hangsOn 66 = .ok (.ifCond .eq 42, 3) := by decide +kernel
theorem dX6_hangsOn_69 : decode cX6_hangsOn 69 = .ok (.iload 4, 2) := by decide +kernel
theorem dX6_hangsOn_71 : decode cX6_hangsOn 71 = .ok (.iload_n 1, 1) := by decide +kernel
theorem dX6_hangsOn_72 : decode cX6_hangsOn 72 = .ok (.if_icmp .eq 13, 3) := by decide +kernel
theorem dX6_hangsOn_75 : decode cX6_hangsOn 75 = .ok (.aload_n 0, 1) := by decide +kernel
theorem dX6_hangsOn_76 : decode cX6_hangsOn 76 = .ok (.getfield 114, 3) := by decide +kernel
theorem dX6_hangsOn_79 : decode cX6_hangsOn 79 = .ok (.iload 4, 2) := by decide +kernel
theorem dX6_hangsOn_81 : decode cX6_hangsOn 81 = .ok (.baload, 1) := by decide +kernel
theorem dX6_hangsOn_82 : decode cX6_hangsOn 82 = .ok (.ifCond .eq 26, 3) := by decide +kernel
theorem dX6_hangsOn_85 : decode cX6_hangsOn 85 = .ok (.aload_n 0, 1) := by decide +kernel
theorem dX6_hangsOn_86 : decode cX6_hangsOn 86 = .ok (.getfield 114, 3) := by decide +kernel
theorem dX6_hangsOn_89 : decode cX6_hangsOn 89 = .ok (.iload 5, 2) := by decide +kernel
theorem dX6_hangsOn_91 : decode cX6_hangsOn 91 = .ok (.baload, 1) := by decide +kernel
theorem dX6_hangsOn_92 : decode cX6_hangsOn 92 = .ok (.ifCond .eq 6, 3) := by decide +kernel
