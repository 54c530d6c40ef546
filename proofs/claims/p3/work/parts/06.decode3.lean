theorem dX6_hangsOn_95 : decode cX6_hangsOn 95 = .ok (.goto 13, 3) := by decide +kernel
theorem dX6_hangsOn_98 : decode cX6_hangsOn 98 = .ok (.aload_n 0, 1) := by decide +kernel
theorem dX6_hangsOn_99 : decode cX6_hangsOn 99 = .ok (.getfield 114, 3) := by decide +kernel
theorem dX6_hangsOn_102 : decode cX6_hangsOn 102 = .ok (.iload 5, 2) := by decide +kernel
theorem dX6_hangsOn_104 : decode cX6_hangsOn 104 = .ok (.iconst 1, 1) := by decide +kernel
theorem dX6_hangsOn_105 : decode cX6_hangsOn 105 = .ok (.bastore, 1) := by decide +kernel
theorem dX6_hangsOn_106 : decode cX6_hangsOn 106 = .ok (.iconst 1, 1) := by decide +kernel
theorem dX6_hangsOn_107 : decode cX6_hangsOn 107 = .ok (.istore_n 3, 1) := by decide +kernel
theorem dX6_hangsOn_108 : decode cX6_hangsOn 108 = .ok (.iinc 5 1, 3) := by decide +kernel
theorem dX6_hangsOn_111 : decode cX6_hangsOn 111 = .ok (.goto (-67), 3) := by decide +kernel
theorem dX6_hangsOn_114 : decode cX6_hangsOn 114 = .ok (.iinc 4 1, 3) := by decide +kernel
theorem dX6_hangsOn_117 : decode cX6_hangsOn 117 = .ok (.goto (-85), 3) := by decide +kernel
theorem dX6_hangsOn_120 : decode cX6_hangsOn 120 = .ok (.goto (-97), 3) := by decide +kernel
theorem dX6_hangsOn_123 : decode cX6_hangsOn 123 = .ok (.aload_n 0, 1) := by decide +kernel
theorem dX6_hangsOn_124 : decode cX6_hangsOn 124 = .ok (.getfield 114, 3) := by decide +kernel
theorem dX6_hangsOn_127 : decode cX6_hangsOn 127 = .ok (.iload_n 2, 1) := by decide +kernel
theorem dX6_hangsOn_128 : decode cX6_hangsOn 128 = .ok (.baload, 1) := by decide +kernel
theorem dX6_hangsOn_129 : decode cX6_hangsOn 129 = .ok (.ireturn, 1) := by decide +kernel
set_option maxRecDepth 20000 in
theorem dX6_needs_0 : decode cX6_needs 0 = .ok (.aload_n 0, 1) := by decide +kernel
theorem dX6_needs_1 : decode cX6_needs 1 = .ok (.iconst 0, 1) := by decide +kernel
theorem dX6_needs_2 : decode cX6_needs 2 = .ok (.putfield 120, 3) := by decide +kernel
theorem dX6_needs_5 : decode cX6_needs 5 = .ok (.aload_n 0, 1) := by decide +kernel
theorem dX6_needs_6 : decode cX6_needs 6 = .ok (.iload_n 1, 1) := by decide +kernel
theorem dX6_needs_7 : decode cX6_needs 7 = .ok (.invokevirtual 133, 3) := by decide +kernel
theorem dX6_needs_10 : decode cX6_needs 10 = .ok (.ifCond .eq 44, 3) := by decide +kernel
theorem dX6_needs_13 : decode cX6_needs 13 = .ok (.aload_n 0, 1) := by decide +kernel
theorem dX6_needs_14 : decode cX6_needs 14 = .ok (.iload_n 2, 1) := by decide +kernel
theorem dX6_needs_15 : decode cX6_needs 15 = .ok (.invokevirtual 133, 3) := by decide +kernel
theorem dX6_needs_18 : decode cX6_needs 18 = .ok (.ifCond .eq 36, 3) := by decide +kernel
theorem dX6_needs_21 : decode cX6_needs 21 = .ok (.aload_n 0, 1) := by decide +kernel
theorem dX6_needs_22 : decode cX6_needs 22 = .ok (.getfield 57, 3) := by decide +kernel
theorem dX6_needs_25 : decode cX6_needs 25 = .ok (.bipush 12, 2) := by decide +kernel
theorem dX6_needs_27 : decode cX6_needs 27 = .ok (.iload_n 1, 1) := by decide +kernel
theorem dX6_needs_28 : decode cX6_needs 28 = .ok (.imul, 1) := by decide +kernel
theorem dX6_needs_29 : decode cX6_needs 29 = .ok (.iload_n 2, 1) := by decide +kernel
theorem dX6_needs_30 : decode cX6_needs 30 = .ok (.iadd, 1) := by decide +kernel
theorem dX6_needs_31 : decode cX6_needs 31 = .ok (.baload, 1) := by decide +kernel
theorem dX6_needs_32 : decode cX6_needs 32 = .ok (.iload_n 3, 1) := by decide +kernel
theorem dX6_needs_33 : decode cX6_needs 33 = .ok (.if_icmp .eq 21, 3) := by decide +kernel
theorem dX6_needs_36 : decode cX6_needs 36 = .ok (.iload_n 3, 1) := by decide +kernel
theorem dX6_needs_37 : decode cX6_needs 37 = .ok (.ifCond .eq 19, 3) := by decide +kernel
theorem dX6_needs_40 : decode cX6_needs 40 = .ok (.iload_n 1, 1) := by decide +kernel
theorem dX6_needs_41 : decode cX6_needs 41 = .ok (.iload_n 2, 1) := by decide +kernel
theorem dX6_needs_42 : decode cX6_needs 42 = .ok (.if_icmp .eq 12, 3) := by decide +kernel
theorem dX6_needs_45 : decode cX6_needs 45 = .ok (.aload_n 0, 1) := by decide +kernel
theorem dX6_needs_46 : decode cX6_needs 46 = .ok (.iload_n 2, 1) := by decide +kernel
theorem dX6_needs_47 : decode cX6_needs 47 = .ok (.iload_n 1, 1) := by decide +kernel
theorem dX6_needs_48 : decode cX6_needs 48 = .ok (.invokevirtual 137, 3) := by decide +kernel
theorem dX6_needs_51 : decode cX6_needs 51 = .ok (.ifCond .eq 5, 3) := by decide +kernel
theorem dX6_needs_54 : decode cX6_needs 54 = .ok (.iconst 0, 1) := by decide +kernel
theorem dX6_needs_55 : decode cX6_needs 55 = .ok (.ireturn, 1) := by decide +kernel
theorem dX6_needs_56 : decode cX6_needs 56 = .ok (.aload_n 0, 1) := by decide +kernel
theorem dX6_needs_57 : decode cX6_needs 57 = .ok (.getfield 57, 3) := by decide +kernel
theorem dX6_needs_60 : decode cX6_needs 60 = .ok (.bipush 12, 2) := by decide +kernel
theorem dX6_needs_62 : decode cX6_needs 62 = .ok (.iload_n 1, 1) := by decide +kernel
theorem dX6_needs_63 : decode cX6_needs 63 = .ok (.imul, 1) := by decide +kernel
theorem dX6_needs_64 : decode cX6_needs 64 = .ok (.iload_n 2, 1) := by decide +kernel
theorem dX6_needs_65 : decode cX6_needs 65 = .ok (.iadd, 1) := by decide +kernel
theorem dX6_needs_66 : decode cX6_needs 66 = .ok (.iload_n 3, 1) := by decide +kernel
theorem dX6_needs_67 : decode cX6_needs 67 = .ok (.bastore, 1) := by decide +kernel
theorem dX6_needs_68 : decode cX6_needs 68 = .ok (.iconst 1, 1) := by decide +kernel
theorem dX6_needs_69 : decode cX6_needs 69 = .ok (.ireturn, 1) := by decide +kernel
set_option maxRecDepth 20000 in
theorem dX6_hangs_0 : decode cX6_hangs 0 = .ok (.aload_n 0, 1) := by decide +kernel
theorem dX6_hangs_1 : decode cX6_hangs 1 = .ok (.iconst 0, 1) := by decide +kernel
theorem dX6_hangs_2 : decode cX6_hangs 2 = .ok (.putfield 120, 3) := by decide +kernel
theorem dX6_hangs_5 : decode cX6_hangs 5 = .ok (.aload_n 0, 1) := by decide +kernel
theorem dX6_hangs_6 : decode cX6_hangs 6 = .ok (.iload_n 1, 1) := by decide +kernel
theorem dX6_hangs_7 : decode cX6_hangs 7 = .ok (.invokevirtual 133, 3) := by decide +kernel
theorem dX6_hangs_10 : decode cX6_hangs 10 = .ok (.ifCond .eq 24, 3) := by decide +kernel
theorem dX6_hangs_13 : decode cX6_hangs 13 = .ok (.aload_n 0, 1) := by decide +kernel
theorem dX6_hangs_14 : decode cX6_hangs 14 = .ok (.iload_n 2, 1) := by decide +kernel
theorem dX6_hangs_15 : decode cX6_hangs 15 = .ok (.invokevirtual 133, 3) := by decide +kernel
theorem dX6_hangs_18 : decode cX6_hangs 18 = .ok (.ifCond .eq 16, 3) := by decide +kernel
theorem dX6_hangs_21 : decode cX6_hangs 21 = .ok (.aload_n 0, 1) := by decide +kernel
theorem dX6_hangs_22 : decode cX6_hangs 22 = .ok (.iload_n 1, 1) := by decide +kernel
theorem dX6_hangs_23 : decode cX6_hangs 23 = .ok (.iload_n 2, 1) := by decide +kernel
theorem dX6_hangs_24 : decode cX6_hangs 24 = .ok (.invokevirtual 137, 3) := by decide +kernel
theorem dX6_hangs_27 : decode cX6_hangs 27 = .ok (.ifCond .eq 7, 3) := by decide +kernel
theorem dX6_hangs_30 : decode cX6_hangs 30 = .ok (.iconst 1, 1) := by decide +kernel
theorem dX6_hangs_31 : decode cX6_hangs 31 = .ok (.goto 4, 3) := by decide +kernel
theorem dX6_hangs_34 : decode cX6_hangs 34 = .ok (.iconst 0, 1) := by decide +kernel
theorem dX6_hangs_35 : decode cX6_hangs 35 = .ok (.ireturn, 1) := by decide +kernel
theorem dX6_plan_0 : decode cX6_plan 0 = .ok (.aload_n 0, 1) := by decide +kernel
theorem dX6_plan_1 : decode cX6_plan 1 = .ok (.iconst 0, 1) := by decide +kernel
theorem dX6_plan_2 : decode cX6_plan 2 = .ok (.putfield 120, 3) := by decide +kernel
theorem dX6_plan_5 : decode cX6_plan 5 = .ok (.iconst 0, 1) := by decide +kernel
theorem dX6_plan_6 : decode cX6_plan 6 = .ok (.istore_n 2, 1) := by decide +kernel
theorem dX6_plan_7 : decode cX6_plan 7 = .ok (.iload_n 2, 1) := by decide +kernel
theorem dX6_plan_8 : decode cX6_plan 8 = .ok (.bipush 12, 2) := by decide +kernel
theorem dX6_plan_10 : decode cX6_plan 10 = .ok (.if_icmp .ge 16, 3) := by decide +kernel
theorem dX6_plan_13 : decode cX6_plan 13 = .ok (.aload_n 0, 1) := by decide +kernel
theorem dX6_plan_14 : decode cX6_plan 14 = .ok (.getfield 117, 3) := by decide +kernel
theorem dX6_plan_17 : decode cX6_plan 17 = .ok (.iload_n 2, 1) := by decide +kernel
theorem dX6_plan_18 : decode cX6_plan 18 = .ok (.iconst 0, 1) := by decide +kernel
theorem dX6_plan_19 : decode cX6_plan 19 = .ok (.bastore, 1) := by decide +kernel
theorem dX6_plan_20 : decode cX6_plan 20 = .ok (.iinc 2 1, 3) := by decide +kernel
theorem dX6_plan_23 : decode cX6_plan 23 = .ok (.goto (-16), 3) := by decide +kernel
theorem dX6_plan_26 : decode cX6_plan 26 = .ok (.iconst 0, 1) := by decide +kernel
theorem dX6_plan_27 : decode cX6_plan 27 = .ok (.istore_n 2, 1) := by decide +kernel
theorem dX6_plan_28 : decode cX6_plan 28 = .ok (.iload_n 2, 1) := by decide +kernel
theorem dX6_plan_29 : decode cX6_plan 29 = .ok (.aload_n 0, 1) := by decide +kernel
theorem dX6_plan_30 : decode cX6_plan 30 = .ok (.getfield 123, 3) := by decide +kernel
theorem dX6_plan_33 : decode cX6_plan 33 = .ok (.if_icmp .ge 160, 3) := by decide +kernel
theorem dX6_plan_36 : decode cX6_plan 36 = .ok (.iconst (-1), 1) := by decide +kernel
theorem dX6_plan_37 : decode cX6_plan 37 = .ok (.istore_n 3, 1) := by decide +kernel
theorem dX6_plan_38 : decode cX6_plan 38 = .ok (.iconst 0, 1) := by decide +kernel
theorem dX6_plan_39 : decode cX6_plan 39 = .ok (.istore 4, 2) := by decide +kernel
theorem dX6_plan_41 : decode cX6_plan 41 = .ok (.iload 4, 2) := by decide +kernel
theorem dX6_plan_43 : decode cX6_plan 43 = .ok (.aload_n 0, 1) := by decide +kernel
theorem dX6_plan_44 : decode cX6_plan 44 = .ok (.getfield 123, 3) := by decide +kernel
theorem dX6_plan_47 : decode cX6_plan 47 = .ok (.if_icmp .ge 126, 3) := by decide +kernel
theorem dX6_plan_50 : decode cX6_plan 50 = .ok (.aload_n 0, 1) := by decide +kernel
theorem dX6_plan_51 : decode cX6_plan 51 = .ok (.getfield 117, 3) := by decide +kernel
theorem dX6_plan_54 : decode cX6_plan 54 = .ok (.iload 4, 2) := by decide +kernel
theorem dX6_plan_56 : decode cX6_plan 56 = .ok (.baload, 1) := by decide +kernel
theorem dX6_plan_57 : decode cX6_plan 57 = .ok (.ifCond .ne 7, 3) := by decide +kernel
theorem dX6_plan_60 : decode cX6_plan 60 = .ok (.iconst 1, 1) := by decide +kernel
theorem dX6_plan_61 : decode cX6_plan 61 = .ok (.goto 4, 3) := by decide +kernel
theorem dX6_plan_64 : decode cX6_plan 64 = .ok (.iconst 0, 1) := by decide +kernel
theorem dX6_plan_65 : decode cX6_plan 65 = .ok (.istore 5, 2) := by decide +kernel
theorem dX6_plan_67 : decode cX6_plan 67 = .ok (.iconst 0, 1) := by decide +kernel
theorem dX6_plan_68 : decode cX6_plan 68 = .ok (.istore 6, 2) := by decide +kernel
theorem dX6_plan_70 : decode cX6_plan 70 = .ok (.iload 6, 2) := by decide +kernel
theorem dX6_plan_72 : decode cX6_plan 72 = .ok (.aload_n 0, 1) := by decide +kernel
theorem dX6_plan_73 : decode cX6_plan 73 = .ok (.getfield 123, 3) := by decide +kernel
theorem dX6_plan_76 : decode cX6_plan 76 = .ok (.if_icmp .ge 47, 3) := by decide +kernel
theorem dX6_plan_79 : decode cX6_plan 79 = .ok (.iload 5, 2) := by decide +kernel
theorem dX6_plan_81 : decode cX6_plan 81 = .ok (.ifCond .eq 33, 3) := by decide +kernel
theorem dX6_plan_84 : decode cX6_plan 84 = .ok (.aload_n 0, 1) := by decide +kernel
theorem dX6_plan_85 : decode cX6_plan 85 = .ok (.getfield 57, 3) := by decide +kernel
theorem dX6_plan_88 : decode cX6_plan 88 = .ok (.bipush 12, 2) := by decide +kernel
theorem dX6_plan_90 : decode cX6_plan 90 = .ok (.iload 4, 2) := by decide +kernel
theorem dX6_plan_92 : decode cX6_plan 92 = .ok (.imul, 1) := by decide +kernel
theorem dX6_plan_93 : decode cX6_plan 93 = .ok (.iload 6, 2) := by decide +kernel
theorem dX6_plan_95 : decode cX6_plan 95 = .ok (.iadd, 1) := by decide +kernel
theorem dX6_plan_96 : decode cX6_plan 96 = .ok (.baload, 1) := by decide +kernel
theorem dX6_plan_97 : decode cX6_plan 97 = .ok (.ifCond .eq 13, 3) := by decide +kernel
theorem dX6_plan_100 : decode cX6_plan 100 = .ok (.aload_n 0, 1) := by decide +kernel
theorem dX6_plan_101 : decode cX6_plan 101 = .ok (.getfield 117, 3) := by decide +kernel
theorem dX6_plan_104 : decode cX6_plan 104 = .ok (.iload 6, 2) := by decide +kernel
theorem dX6_plan_106 : decode cX6_plan 106 = .ok (.baload, 1) := by decide +kernel
theorem dX6_plan_107 : decode cX6_plan 107 = .ok (.ifCond .eq 7, 3) := by decide +kernel
theorem dX6_plan_110 : decode cX6_plan 110 = .ok (.iconst 1, 1) := by decide +kernel
theorem dX6_plan_111 : decode cX6_plan 111 = .ok (.goto 4, 3) := by decide +kernel
theorem dX6_plan_114 : decode cX6_plan 114 = .ok (.iconst 0, 1) := by decide +kernel
theorem dX6_plan_115 : decode cX6_plan 115 = .ok (.istore 5, 2) := by decide +kernel
theorem dX6_plan_117 : decode cX6_plan 117 = .ok (.iinc 6 1, 3) := by decide +kernel
theorem dX6_plan_120 : decode cX6_plan 120 = .ok (.goto (-50), 3) := by decide +kernel
theorem dX6_plan_123 : decode cX6_plan 123 = .ok (.iload 5, 2) := by decide +kernel
theorem dX6_plan_125 : decode cX6_plan 125 = .ok (.ifCond .eq 42, 3) := by decide +kernel
theorem dX6_plan_128 : decode cX6_plan 128 = .ok (.iload_n 3, 1) := by decide +kernel
theorem dX6_plan_129 : decode cX6_plan 129 = .ok (.iconst (-1), 1) := by decide +kernel
theorem dX6_plan_130 : decode cX6_plan 130 = .ok (.if_icmp .eq 34, 3) := by decide +kernel
theorem dX6_plan_133 : decode cX6_plan 133 = .ok (.aload_n 0, 1) := by decide +kernel
theorem dX6_plan_134 : decode cX6_plan 134 = .ok (.getfield 32, 3) := by decide +kernel
theorem dX6_plan_137 : decode cX6_plan 137 = .ok (.iload 4, 2) := by decide +kernel
theorem dX6_plan_139 : decode cX6_plan 139 = .ok (.iaload, 1) := by decide +kernel
theorem dX6_plan_140 : decode cX6_plan 140 = .ok (.aload_n 0, 1) := by decide +kernel
theorem dX6_plan_141 : decode cX6_plan 141 = .ok (.getfield 26, 3) := by decide +kernel
theorem dX6_plan_144 : decode cX6_plan 144 = .ok (.iload 4, 2) := by decide +kernel
theorem dX6_plan_146 : decode cX6_plan 146 = .ok (.iaload, 1) := by decide +kernel
theorem dX6_plan_147 : decode cX6_plan 147 = .ok (.iadd, 1) := by decide +kernel
theorem dX6_plan_148 : decode cX6_plan 148 = .ok (.aload_n 0, 1) := by decide +kernel
theorem dX6_plan_149 : decode cX6_plan 149 = .ok (.getfield 32, 3) := by decide +kernel
theorem dX6_plan_152 : decode cX6_plan 152 = .ok (.iload_n 3, 1) := by decide +kernel
theorem dX6_plan_153 : decode cX6_plan 153 = .ok (.iaload, 1) := by decide +kernel
theorem dX6_plan_154 : decode cX6_plan 154 = .ok (.aload_n 0, 1) := by decide +kernel
theorem dX6_plan_155 : decode cX6_plan 155 = .ok (.getfield 26, 3) := by decide +kernel
theorem dX6_plan_158 : decode cX6_plan 158 = .ok (.iload_n 3, 1) := by decide +kernel
theorem dX6_plan_159 : decode cX6_plan 159 = .ok (.iaload, 1) := by decide +kernel
theorem dX6_plan_160 : decode cX6_plan 160 = .ok (.iadd, 1) := by decide +kernel
theorem dX6_plan_161 : decode cX6_plan 161 = .ok (.if_icmp .ge 6, 3) := by decide +kernel
theorem dX6_plan_164 : decode cX6_plan 164 = .ok (.iload 4, 2) := by decide +kernel
theorem dX6_plan_166 : decode cX6_plan 166 = .ok (.istore_n 3, 1) := by decide +kernel
theorem dX6_plan_167 : decode cX6_plan 167 = .ok (.iinc 4 1, 3) := by decide +kernel
theorem dX6_plan_170 : decode cX6_plan 170 = .ok (.goto (-129), 3) := by decide +kernel
theorem dX6_plan_173 : decode cX6_plan 173 = .ok (.iload_n 2, 1) := by decide +kernel
theorem dX6_plan_174 : decode cX6_plan 174 = .ok (.iload_n 1, 1) := by decide +kernel
theorem dX6_plan_175 : decode cX6_plan 175 = .ok (.if_icmp .ne 5, 3) := by decide +kernel
theorem dX6_plan_178 : decode cX6_plan 178 = .ok (.iload_n 3, 1) := by decide +kernel
theorem dX6_plan_179 : decode cX6_plan 179 = .ok (.ireturn, 1) := by decide +kernel
theorem dX6_plan_180 : decode cX6_plan 180 = .ok (.aload_n 0, 1) := by decide +kernel
theorem dX6_plan_181 : decode cX6_plan 181 = .ok (.getfield 117, 3) := by decide +kernel
theorem dX6_plan_184 : decode cX6_plan 184 = .ok (.iload_n 3, 1) := by decide +kernel
theorem dX6_plan_185 : decode cX6_plan 185 = .ok (.iconst 1, 1) := by decide +kernel
theorem dX6_plan_186 : decode cX6_plan 186 = .ok (.bastore, 1) := by decide +kernel
theorem dX6_plan_187 : decode cX6_plan 187 = .ok (.iinc 2 1, 3) := by decide +kernel
theorem dX6_plan_190 : decode cX6_plan 190 = .ok (.goto (-162), 3) := by decide +kernel
theorem dX6_plan_193 : decode cX6_plan 193 = .ok (.iconst (-1), 1) := by decide +kernel
theorem dX6_plan_194 : decode cX6_plan 194 = .ok (.ireturn, 1) := by decide +kernel
set_option maxRecDepth 20000 in
theorem dX6_delay_0 : decode cX6_delay 0 = .ok (.aload_n 0, 1) := by decide +kernel
theorem dX6_delay_1 : decode cX6_delay 1 = .ok (.iconst 0, 1) := by decide +kernel
theorem dX6_delay_2 : decode cX6_delay 2 = .ok (.putfield 120, 3) := by decide +kernel
theorem dX6_delay_5 : decode cX6_delay 5 = .ok (.iload_n 1, 1) := by decide +kernel
theorem dX6_delay_6 : decode cX6_delay 6 = .ok (.iconst 0, 1) := by decide +kernel
theorem dX6_delay_7 : decode cX6_delay 7 = .ok (.bipush 15, 2) := by decide +kernel
theorem dX6_delay_9 : decode cX6_delay 9 = .ok (.invokestatic 126, 3) := by decide +kernel
theorem dX6_delay_12 : decode cX6_delay 12 = .ok (.ifCond .eq 13, 3) := by decide +kernel
theorem dX6_delay_15 : decode cX6_delay 15 = .ok (.iload_n 2, 1) := by decide +kernel
theorem dX6_delay_16 : decode cX6_delay 16 = .ok (.iconst 0, 1) := by decide +kernel
theorem dX6_delay_17 : decode cX6_delay 17 = .ok (.bipush 20, 2) := by decide +kernel
theorem dX6_delay_19 : decode cX6_delay 19 = .ok (.invokestatic 126, 3) := by decide +kernel
theorem dX6_delay_22 : decode cX6_delay 22 = .ok (.ifCond .ne 5, 3) := by decide +kernel
theorem dX6_delay_25 : decode cX6_delay 25 = .ok (.iconst 0, 1) := by decide +kernel
theorem dX6_delay_26 : decode cX6_delay 26 = .ok (.ireturn, 1) := by decide +kernel
theorem dX6_delay_27 : decode cX6_delay 27 = .ok (.aload_n 0, 1) := by decide +kernel
theorem dX6_delay_28 : decode cX6_delay 28 = .ok (.getfield 72, 3) := by decide +kernel
theorem dX6_delay_31 : decode cX6_delay 31 = .ok (.iload_n 1, 1) := by decide +kernel
theorem dX6_delay_32 : decode cX6_delay 32 = .ok (.iload_n 2, 1) := by decide +kernel
theorem dX6_delay_33 : decode cX6_delay 33 = .ok (.iastore, 1) := by decide +kernel
theorem dX6_delay_34 : decode cX6_delay 34 = .ok (.iconst 1, 1) := by decide +kernel
theorem dX6_delay_35 : decode cX6_delay 35 = .ok (.ireturn, 1) := by decide +kernel
set_option maxRecDepth 20000 in
theorem dX6_quiet_0 : decode cX6_quiet 0 = .ok (.aload_n 0, 1) := by decide +kernel
theorem dX6_quiet_1 : decode cX6_quiet 1 = .ok (.iconst 0, 1) := by decide +kernel
theorem dX6_quiet_2 : decode cX6_quiet 2 = .ok (.putfield 120, 3) := by decide +kernel
theorem dX6_quiet_5 : decode cX6_quiet 5 = .ok (.iload_n 1, 1) := by decide +kernel
theorem dX6_quiet_6 : decode cX6_quiet 6 = .ok (.iconst 0, 1) := by decide +kernel
theorem dX6_quiet_7 : decode cX6_quiet 7 = .ok (.sipush 1000, 3) := by decide +kernel
theorem dX6_quiet_10 : decode cX6_quiet 10 = .ok (.invokestatic 126, 3) := by decide +kernel
theorem dX6_quiet_13 : decode cX6_quiet 13 = .ok (.ifCond .eq 14, 3) := by decide +kernel
theorem dX6_quiet_16 : decode cX6_quiet 16 = .ok (.iload_n 2, 1) := by decide +kernel
theorem dX6_quiet_17 : decode cX6_quiet 17 = .ok (.iconst 0, 1) := by decide +kernel
theorem dX6_quiet_18 : decode cX6_quiet 18 = .ok (.sipush 10000, 3) := by decide +kernel
theorem dX6_quiet_21 : decode cX6_quiet 21 = .ok (.invokestatic 126, 3) := by decide +kernel
theorem dX6_quiet_24 : decode cX6_quiet 24 = .ok (.ifCond .ne 5, 3) := by decide +kernel
theorem dX6_quiet_27 : decode cX6_quiet 27 = .ok (.iconst 0, 1) := by decide +kernel
theorem dX6_quiet_28 : decode cX6_quiet 28 = .ok (.ireturn, 1) := by decide +kernel
theorem dX6_quiet_29 : decode cX6_quiet 29 = .ok (.aload_n 0, 1) := by decide +kernel
theorem dX6_quiet_30 : decode cX6_quiet 30 = .ok (.iload_n 1, 1) := by decide +kernel
theorem dX6_quiet_31 : decode cX6_quiet 31 = .ok (.putfield 7, 3) := by decide +kernel
theorem dX6_quiet_34 : decode cX6_quiet 34 = .ok (.aload_n 0, 1) := by decide +kernel
theorem dX6_quiet_35 : decode cX6_quiet 35 = .ok (.iload_n 2, 1) := by decide +kernel
theorem dX6_quiet_36 : decode cX6_quiet 36 = .ok (.putfield 13, 3) := by decide +kernel
theorem dX6_quiet_39 : decode cX6_quiet 39 = .ok (.iconst 1, 1) := by decide +kernel
theorem dX6_quiet_40 : decode cX6_quiet 40 = .ok (.ireturn, 1) := by decide +kernel
set_option maxRecDepth 20000 in
theorem dX6_down_0 : decode cX6_down 0 = .ok (.aload_n 0, 1) := by decide +kernel
theorem dX6_down_1 : decode cX6_down 1 = .ok (.iconst 0, 1) := by decide +kernel
theorem dX6_down_2 : decode cX6_down 2 = .ok (.putfield 120, 3) := by decide +kernel
theorem dX6_down_5 : decode cX6_down 5 = .ok (.iload_n 1, 1) := by decide +kernel
theorem dX6_down_6 : decode cX6_down 6 = .ok (.iconst 0, 1) := by decide +kernel
theorem dX6_down_7 : decode cX6_down 7 = .ok (.bipush 16, 2) := by decide +kernel
theorem dX6_down_9 : decode cX6_down 9 = .ok (.invokestatic 126, 3) := by decide +kernel
theorem dX6_down_12 : decode cX6_down 12 = .ok (.ifCond .eq 13, 3) := by decide +kernel
theorem dX6_down_15 : decode cX6_down 15 = .ok (.aload_n 0, 1) := by decide +kernel
theorem dX6_down_16 : decode cX6_down 16 = .ok (.getfield 60, 3) := by decide +kernel
theorem dX6_down_19 : decode cX6_down 19 = .ok (.iload_n 1, 1) := by decide +kernel
theorem dX6_down_20 : decode cX6_down 20 = .ok (.baload, 1) := by decide +kernel
theorem dX6_down_21 : decode cX6_down 21 = .ok (.iload_n 2, 1) := by decide +kernel
theorem dX6_down_22 : decode cX6_down 22 = .ok (.if_icmp .ne 5, 3) := by decide +kernel
theorem dX6_down_25 : decode cX6_down 25 = .ok (.iconst 0, 1) := by decide +kernel
theorem dX6_down_26 : decode cX6_down 26 = .ok (.ireturn, 1) := by decide +kernel
theorem dX6_down_27 : decode cX6_down 27 = .ok (.aload_n 0, 1) := by decide +kernel
theorem dX6_down_28 : decode cX6_down 28 = .ok (.getfield 60, 3) := by decide +kernel
theorem dX6_down_31 : decode cX6_down 31 = .ok (.iload_n 1, 1) := by decide +kernel
theorem dX6_down_32 : decode cX6_down 32 = .ok (.iload_n 2, 1) := by decide +kernel
theorem dX6_down_33 : decode cX6_down 33 = .ok (.bastore, 1) := by decide +kernel
theorem dX6_down_34 : decode cX6_down 34 = .ok (.iconst 1, 1) := by decide +kernel
theorem dX6_down_35 : decode cX6_down 35 = .ok (.ireturn, 1) := by decide +kernel
theorem dX6_write_0 : decode cX6_write 0 = .ok (.aload_n 0, 1) := by decide +kernel
theorem dX6_write_1 : decode cX6_write 1 = .ok (.getfield 81, 3) := by decide +kernel
theorem dX6_write_4 : decode cX6_write 4 = .ok (.aload_n 0, 1) := by decide +kernel
theorem dX6_write_5 : decode cX6_write 5 = .ok (.getfield 141, 3) := by decide +kernel
theorem dX6_write_8 : decode cX6_write 8 = .ok (.iload_n 1, 1) := by decide +kernel
theorem dX6_write_9 : decode cX6_write 9 = .ok (.iastore, 1) := by decide +kernel
theorem dX6_write_10 : decode cX6_write 10 = .ok (.aload_n 0, 1) := by decide +kernel
theorem dX6_write_11 : decode cX6_write 11 = .ok (.getfield 84, 3) := by decide +kernel
theorem dX6_write_14 : decode cX6_write 14 = .ok (.aload_n 0, 1) := by decide +kernel
theorem dX6_write_15 : decode cX6_write 15 = .ok (.getfield 141, 3) := by decide +kernel
theorem dX6_write_18 : decode cX6_write 18 = .ok (.iload_n 2, 1) := by decide +kernel
theorem dX6_write_19 : decode cX6_write 19 = .ok (.iastore, 1) := by decide +kernel
theorem dX6_write_20 : decode cX6_write 20 = .ok (.aload_n 0, 1) := by decide +kernel
theorem dX6_write_21 : decode cX6_write 21 = .ok (.getfield 96, 3) := by decide +kernel
theorem dX6_write_24 : decode cX6_write 24 = .ok (.aload_n 0, 1) := by decide +kernel
theorem dX6_write_25 : decode cX6_write 25 = .ok (.getfield 141, 3) := by decide +kernel
theorem dX6_write_28 : decode cX6_write 28 = .ok (.iload_n 3, 1) := by decide +kernel
theorem dX6_write_29 : decode cX6_write 29 = .ok (.bastore, 1) := by decide +kernel
theorem dX6_write_30 : decode cX6_write 30 = .ok (.aload_n 0, 1) := by decide +kernel
theorem dX6_write_31 : decode cX6_write 31 = .ok (.getfield 87, 3) := by decide +kernel
theorem dX6_write_34 : decode cX6_write 34 = .ok (.aload_n 0, 1) := by decide +kernel
theorem dX6_write_35 : decode cX6_write 35 = .ok (.getfield 141, 3) := by decide +kernel
theorem dX6_write_38 : decode cX6_write 38 = .ok (.aload_n 0, 1) := by decide +kernel
theorem dX6_write_39 : decode cX6_write 39 = .ok (.getfield 130, 3) := by decide +kernel
theorem dX6_write_42 : decode cX6_write 42 = .ok (.iconst 1, 1) := by decide +kernel
theorem dX6_write_43 : decode cX6_write 43 = .ok (.aload_n 0, 1) := by decide +kernel
theorem dX6_write_44 : decode cX6_write 44 = .ok (.getfield 72, 3) := by decide +kernel
theorem dX6_write_47 : decode cX6_write 47 = .ok (.iload_n 1, 1) := by decide +kernel
theorem dX6_write_48 : decode cX6_write 48 = .ok (.iaload, 1) := by decide +kernel
theorem dX6_write_49 : decode cX6_write 49 = .ok (.invokestatic 144, 3) := by decide +kernel
theorem dX6_write_52 : decode cX6_write 52 = .ok (.iadd, 1) := by decide +kernel
theorem dX6_write_53 : decode cX6_write 53 = .ok (.iastore, 1) := by decide +kernel
theorem dX6_write_54 : decode cX6_write 54 = .ok (.aload_n 0, 1) := by decide +kernel
theorem dX6_write_55 : decode cX6_write 55 = .ok (.getfield 90, 3) := by decide +kernel
theorem dX6_write_58 : decode cX6_write 58 = .ok (.aload_n 0, 1) := by decide +kernel
theorem dX6_write_59 : decode cX6_write 59 = .ok (.getfield 141, 3) := by decide +kernel
theorem dX6_write_62 : decode cX6_write 62 = .ok (.aload_n 0, 1) := by decide +kernel
theorem dX6_write_63 : decode cX6_write 63 = .ok (.getfield 29, 3) := by decide +kernel
theorem dX6_write_66 : decode cX6_write 66 = .ok (.iload_n 2, 1) := by decide +kernel
theorem dX6_write_67 : decode cX6_write 67 = .ok (.iaload, 1) := by decide +kernel
theorem dX6_write_68 : decode cX6_write 68 = .ok (.iastore, 1) := by decide +kernel
theorem dX6_write_69 : decode cX6_write 69 = .ok (.aload_n 0, 1) := by decide +kernel
theorem dX6_write_70 : decode cX6_write 70 = .ok (.getfield 93, 3) := by decide +kernel
theorem dX6_write_73 : decode cX6_write 73 = .ok (.aload_n 0, 1) := by decide +kernel
theorem dX6_write_74 : decode cX6_write 74 = .ok (.getfield 141, 3) := by decide +kernel
theorem dX6_write_77 : decode cX6_write 77 = .ok (.aload_n 0, 1) := by decide +kernel
theorem dX6_write_78 : decode cX6_write 78 = .ok (.getfield 32, 3) := by decide +kernel
theorem dX6_write_81 : decode cX6_write 81 = .ok (.iload_n 2, 1) := by decide +kernel
theorem dX6_write_82 : decode cX6_write 82 = .ok (.iaload, 1) := by decide +kernel
theorem dX6_write_83 : decode cX6_write 83 = .ok (.iastore, 1) := by decide +kernel
theorem dX6_write_84 : decode cX6_write 84 = .ok (.aload_n 0, 1) := by decide +kernel
theorem dX6_write_85 : decode cX6_write 85 = .ok (.dup, 1) := by decide +kernel
theorem dX6_write_86 : decode cX6_write 86 = .ok (.getfield 141, 3) := by decide +kernel
theorem dX6_write_89 : decode cX6_write 89 = .ok (.iconst 1, 1) := by decide +kernel
theorem dX6_write_90 : decode cX6_write 90 = .ok (.iadd, 1) := by decide +kernel
theorem dX6_write_91 : decode cX6_write 91 = .ok (.putfield 141, 3) := by decide +kernel
theorem dX6_write_94 : decode cX6_write 94 = .ok (.aload_n 0, 1) := by decide +kernel
theorem dX6_write_95 : decode cX6_write 95 = .ok (.getfield 47, 3) := by decide +kernel
theorem dX6_write_98 : decode cX6_write 98 = .ok (.iload_n 2, 1) := by decide +kernel
theorem dX6_write_99 : decode cX6_write 99 = .ok (.dup2, 1) := by decide +kernel
theorem dX6_write_100 : decode cX6_write 100 = .ok (.iaload, 1) := by decide +kernel
theorem dX6_write_101 : decode cX6_write 101 = .ok (.iconst 1, 1) := by decide +kernel
theorem dX6_write_102 : decode cX6_write 102 = .ok (.iadd, 1) := by decide +kernel
theorem dX6_write_103 : decode cX6_write 103 = .ok (.iastore, 1) := by decide +kernel
theorem dX6_write_104 : decode cX6_write 104 = .ok (.return_, 1) := by decide +kernel
set_option maxRecDepth 20000 in
theorem dX6_begins_0 : decode cX6_begins 0 = .ok (.aload_n 0, 1) := by decide +kernel
theorem dX6_begins_1 : decode cX6_begins 1 = .ok (.getfield 35, 3) := by decide +kernel
theorem dX6_begins_4 : decode cX6_begins 4 = .ok (.iload_n 1, 1) := by decide +kernel
theorem dX6_begins_5 : decode cX6_begins 5 = .ok (.iload_n 2, 1) := by decide +kernel
theorem dX6_begins_6 : decode cX6_begins 6 = .ok (.iastore, 1) := by decide +kernel
theorem dX6_begins_7 : decode cX6_begins 7 = .ok (.aload_n 0, 1) := by decide +kernel
theorem dX6_begins_8 : decode cX6_begins 8 = .ok (.getfield 38, 3) := by decide +kernel
theorem dX6_begins_11 : decode cX6_begins 11 = .ok (.iload_n 1, 1) := by decide +kernel
theorem dX6_begins_12 : decode cX6_begins 12 = .ok (.aload_n 0, 1) := by decide +kernel
theorem dX6_begins_13 : decode cX6_begins 13 = .ok (.getfield 130, 3) := by decide +kernel
theorem dX6_begins_16 : decode cX6_begins 16 = .ok (.iastore, 1) := by decide +kernel
theorem dX6_begins_17 : decode cX6_begins 17 = .ok (.aload_n 0, 1) := by decide +kernel
theorem dX6_begins_18 : decode cX6_begins 18 = .ok (.getfield 41, 3) := by decide +kernel
theorem dX6_begins_21 : decode cX6_begins 21 = .ok (.iload_n 1, 1) := by decide +kernel
theorem dX6_begins_22 : decode cX6_begins 22 = .ok (.iconst 0, 1) := by decide +kernel
theorem dX6_begins_23 : decode cX6_begins 23 = .ok (.iastore, 1) := by decide +kernel
theorem dX6_begins_24 : decode cX6_begins 24 = .ok (.aload_n 0, 1) := by decide +kernel
theorem dX6_begins_25 : decode cX6_begins 25 = .ok (.getfield 44, 3) := by decide +kernel
theorem dX6_begins_28 : decode cX6_begins 28 = .ok (.iload_n 1, 1) := by decide +kernel
theorem dX6_begins_29 : decode cX6_begins 29 = .ok (.iconst (-1), 1) := by decide +kernel
theorem dX6_begins_30 : decode cX6_begins 30 = .ok (.iastore, 1) := by decide +kernel
theorem dX6_begins_31 : decode cX6_begins 31 = .ok (.iload_n 2, 1) := by decide +kernel
theorem dX6_begins_32 : decode cX6_begins 32 = .ok (.iconst 1, 1) := by decide +kernel
theorem dX6_begins_33 : decode cX6_begins 33 = .ok (.if_icmp .eq 13, 3) := by decide +kernel
theorem dX6_begins_36 : decode cX6_begins 36 = .ok (.iload_n 2, 1) := by decide +kernel
theorem dX6_begins_37 : decode cX6_begins 37 = .ok (.iconst 4, 1) := by decide +kernel
theorem dX6_begins_38 : decode cX6_begins 38 = .ok (.if_icmp .eq 8, 3) := by decide +kernel
theorem dX6_begins_41 : decode cX6_begins 41 = .ok (.iload_n 2, 1) := by decide +kernel
theorem dX6_begins_42 : decode cX6_begins 42 = .ok (.iconst 5, 1) := by decide +kernel
theorem dX6_begins_43 : decode cX6_begins 43 = .ok (.if_icmp .ne 49, 3) := by decide +kernel
theorem dX6_begins_46 : decode cX6_begins 46 = .ok (.iconst 0, 1) := by decide +kernel
theorem dX6_begins_47 : decode cX6_begins 47 = .ok (.istore_n 3, 1) := by decide +kernel
theorem dX6_begins_48 : decode cX6_begins 48 = .ok (.iload_n 3, 1) := by decide +kernel
theorem dX6_begins_49 : decode cX6_begins 49 = .ok (.bipush 6, 2) := by decide +kernel
theorem dX6_begins_51 : decode cX6_begins 51 = .ok (.if_icmp .ge 41, 3) := by decide +kernel
theorem dX6_begins_54 : decode cX6_begins 54 = .ok (.aload_n 0, 1) := by decide +kernel
theorem dX6_begins_55 : decode cX6_begins 55 = .ok (.getfield 23, 3) := by decide +kernel
theorem dX6_begins_58 : decode cX6_begins 58 = .ok (.iload_n 1, 1) := by decide +kernel
theorem dX6_begins_59 : decode cX6_begins 59 = .ok (.iaload, 1) := by decide +kernel
theorem dX6_begins_60 : decode cX6_begins 60 = .ok (.iload_n 3, 1) := by decide +kernel
theorem dX6_begins_61 : decode cX6_begins 61 = .ok (.invokestatic 150, 3) := by decide +kernel
theorem dX6_begins_64 : decode cX6_begins 64 = .ok (.ifCond .eq 22, 3) := by decide +kernel
theorem dX6_begins_67 : decode cX6_begins 67 = .ok (.aload_n 0, 1) := by decide +kernel
theorem dX6_begins_68 : decode cX6_begins 68 = .ok (.bipush 10, 2) := by decide +kernel
theorem dX6_begins_70 : decode cX6_begins 70 = .ok (.iload_n 3, 1) := by decide +kernel
theorem dX6_begins_71 : decode cX6_begins 71 = .ok (.iadd, 1) := by decide +kernel
theorem dX6_begins_72 : decode cX6_begins 72 = .ok (.iload_n 1, 1) := by decide +kernel
theorem dX6_begins_73 : decode cX6_begins 73 = .ok (.iload_n 2, 1) := by decide +kernel
theorem dX6_begins_74 : decode cX6_begins 74 = .ok (.iconst 1, 1) := by decide +kernel
theorem dX6_begins_75 : decode cX6_begins 75 = .ok (.if_icmp .eq 7, 3) := by decide +kernel
theorem dX6_begins_78 : decode cX6_begins 78 = .ok (.iconst 1, 1) := by decide +kernel
theorem dX6_begins_79 : decode cX6_begins 79 = .ok (.goto 4, 3) := by decide +kernel
theorem dX6_begins_82 : decode cX6_begins 82 = .ok (.iconst 0, 1) := by decide +kernel
theorem dX6_begins_83 : decode cX6_begins 83 = .ok (.invokevirtual 153, 3) := by decide +kernel
theorem dX6_begins_86 : decode cX6_begins 86 = .ok (.iinc 3 1, 3) := by decide +kernel
theorem dX6_begins_89 : decode cX6_begins 89 = .ok (.goto (-41), 3) := by decide +kernel
theorem dX6_begins_92 : decode cX6_begins 92 = .ok (.iload_n 2, 1) := by decide +kernel
theorem dX6_begins_93 : decode cX6_begins 93 = .ok (.iconst 2, 1) := by decide +kernel
theorem dX6_begins_94 : decode cX6_begins 94 = .ok (.if_icmp .ne 37, 3) := by decide +kernel
theorem dX6_begins_97 : decode cX6_begins 97 = .ok (.iconst 0, 1) := by decide +kernel
theorem dX6_begins_98 : decode cX6_begins 98 = .ok (.istore_n 3, 1) := by decide +kernel
theorem dX6_begins_99 : decode cX6_begins 99 = .ok (.iload_n 3, 1) := by decide +kernel
theorem dX6_begins_100 : decode cX6_begins 100 = .ok (.bipush 10, 2) := by decide +kernel
theorem dX6_begins_102 : decode cX6_begins 102 = .ok (.if_icmp .ge 29, 3) := by decide +kernel
theorem dX6_begins_105 : decode cX6_begins 105 = .ok (.aload_n 0, 1) := by decide +kernel
theorem dX6_begins_106 : decode cX6_begins 106 = .ok (.getfield 20, 3) := by decide +kernel
theorem dX6_begins_109 : decode cX6_begins 109 = .ok (.iload_n 1, 1) := by decide +kernel
theorem dX6_begins_110 : decode cX6_begins 110 = .ok (.iaload, 1) := by decide +kernel
theorem dX6_begins_111 : decode cX6_begins 111 = .ok (.iload_n 3, 1) := by decide +kernel
theorem dX6_begins_112 : decode cX6_begins 112 = .ok (.invokestatic 150, 3) := by decide +kernel
theorem dX6_begins_115 : decode cX6_begins 115 = .ok (.ifCond .eq 10, 3) := by decide +kernel
theorem dX6_begins_118 : decode cX6_begins 118 = .ok (.aload_n 0, 1) := by decide +kernel
theorem dX6_begins_119 : decode cX6_begins 119 = .ok (.iload_n 3, 1) := by decide +kernel
theorem dX6_begins_120 : decode cX6_begins 120 = .ok (.iload_n 1, 1) := by decide +kernel
theorem dX6_begins_121 : decode cX6_begins 121 = .ok (.iconst 0, 1) := by decide +kernel
theorem dX6_begins_122 : decode cX6_begins 122 = .ok (.invokevirtual 153, 3) := by decide +kernel
theorem dX6_begins_125 : decode cX6_begins 125 = .ok (.iinc 3 1, 3) := by decide +kernel
theorem dX6_begins_128 : decode cX6_begins 128 = .ok (.goto (-29), 3) := by decide +kernel
theorem dX6_begins_131 : decode cX6_begins 131 = .ok (.return_, 1) := by decide +kernel
theorem dX6_act_0 : decode cX6_act 0 = .ok (.aload_n 0, 1) := by decide +kernel
theorem dX6_act_1 : decode cX6_act 1 = .ok (.getfield 84, 3) := by decide +kernel
theorem dX6_act_4 : decode cX6_act 4 = .ok (.iload_n 1, 1) := by decide +kernel
theorem dX6_act_5 : decode cX6_act 5 = .ok (.iaload, 1) := by decide +kernel
theorem dX6_act_6 : decode cX6_act 6 = .ok (.istore_n 2, 1) := by decide +kernel
theorem dX6_act_7 : decode cX6_act 7 = .ok (.aload_n 0, 1) := by decide +kernel
theorem dX6_act_8 : decode cX6_act 8 = .ok (.getfield 47, 3) := by decide +kernel
theorem dX6_act_11 : decode cX6_act 11 = .ok (.iload_n 2, 1) := by decide +kernel
theorem dX6_act_12 : decode cX6_act 12 = .ok (.dup2, 1) := by decide +kernel
theorem dX6_act_13 : decode cX6_act 13 = .ok (.iaload, 1) := by decide +kernel
theorem dX6_act_14 : decode cX6_act 14 = .ok (.iconst 1, 1) := by decide +kernel
theorem dX6_act_15 : decode cX6_act 15 = .ok (.isub, 1) := by decide +kernel
theorem dX6_act_16 : decode cX6_act 16 = .ok (.iastore, 1) := by decide +kernel
theorem dX6_act_17 : decode cX6_act 17 = .ok (.aload_n 0, 1) := by decide +kernel
theorem dX6_act_18 : decode cX6_act 18 = .ok (.getfield 81, 3) := by decide +kernel
theorem dX6_act_21 : decode cX6_act 21 = .ok (.iload_n 1, 1) := by decide +kernel
theorem dX6_act_22 : decode cX6_act 22 = .ok (.iaload, 1) := by decide +kernel
theorem dX6_act_23 : decode cX6_act 23 = .ok (.bipush 10, 2) := by decide +kernel
theorem dX6_act_25 : decode cX6_act 25 = .ok (.if_icmp .ge 26, 3) := by decide +kernel
theorem dX6_act_28 : decode cX6_act 28 = .ok (.aload_n 0, 1) := by decide +kernel
theorem dX6_act_29 : decode cX6_act 29 = .ok (.getfield 63, 3) := by decide +kernel
theorem dX6_act_32 : decode cX6_act 32 = .ok (.bipush 10, 2) := by decide +kernel
theorem dX6_act_34 : decode cX6_act 34 = .ok (.iload_n 2, 1) := by decide +kernel
theorem dX6_act_35 : decode cX6_act 35 = .ok (.imul, 1) := by decide +kernel
theorem dX6_act_36 : decode cX6_act 36 = .ok (.aload_n 0, 1) := by decide +kernel
theorem dX6_act_37 : decode cX6_act 37 = .ok (.getfield 81, 3) := by decide +kernel
theorem dX6_act_40 : decode cX6_act 40 = .ok (.iload_n 1, 1) := by decide +kernel
theorem dX6_act_41 : decode cX6_act 41 = .ok (.iaload, 1) := by decide +kernel
theorem dX6_act_42 : decode cX6_act 42 = .ok (.iadd, 1) := by decide +kernel
theorem dX6_act_43 : decode cX6_act 43 = .ok (.aload_n 0, 1) := by decide +kernel
theorem dX6_act_44 : decode cX6_act 44 = .ok (.getfield 90, 3) := by decide +kernel
theorem dX6_act_47 : decode cX6_act 47 = .ok (.iload_n 1, 1) := by decide +kernel
theorem dX6_act_48 : decode cX6_act 48 = .ok (.iaload, 1) := by decide +kernel
theorem dX6_act_49 : decode cX6_act 49 = .ok (.iastore, 1) := by decide +kernel
theorem dX6_act_50 : decode cX6_act 50 = .ok (.return_, 1) := by decide +kernel
theorem dX6_act_51 : decode cX6_act 51 = .ok (.bipush 6, 2) := by decide +kernel
theorem dX6_act_53 : decode cX6_act 53 = .ok (.iload_n 2, 1) := by decide +kernel
theorem dX6_act_54 : decode cX6_act 54 = .ok (.imul, 1) := by decide +kernel
theorem dX6_act_55 : decode cX6_act 55 = .ok (.aload_n 0, 1) := by decide +kernel
theorem dX6_act_56 : decode cX6_act 56 = .ok (.getfield 81, 3) := by decide +kernel
theorem dX6_act_59 : decode cX6_act 59 = .ok (.iload_n 1, 1) := by decide +kernel
theorem dX6_act_60 : decode cX6_act 60 = .ok (.iaload, 1) := by decide +kernel
theorem dX6_act_61 : decode cX6_act 61 = .ok (.iadd, 1) := by decide +kernel
theorem dX6_act_62 : decode cX6_act 62 = .ok (.bipush 10, 2) := by decide +kernel
theorem dX6_act_64 : decode cX6_act 64 = .ok (.isub, 1) := by decide +kernel
theorem dX6_act_65 : decode cX6_act 65 = .ok (.istore_n 3, 1) := by decide +kernel
theorem dX6_act_66 : decode cX6_act 66 = .ok (.aload_n 0, 1) := by decide +kernel
theorem dX6_act_67 : decode cX6_act 67 = .ok (.getfield 96, 3) := by decide +kernel
theorem dX6_act_70 : decode cX6_act 70 = .ok (.iload_n 1, 1) := by decide +kernel
theorem dX6_act_71 : decode cX6_act 71 = .ok (.baload, 1) := by decide +kernel
theorem dX6_act_72 : decode cX6_act 72 = .ok (.ifCond .eq 37, 3) := by decide +kernel
theorem dX6_act_75 : decode cX6_act 75 = .ok (.aload_n 0, 1) := by decide +kernel
theorem dX6_act_76 : decode cX6_act 76 = .ok (.getfield 66, 3) := by decide +kernel
theorem dX6_act_79 : decode cX6_act 79 = .ok (.iload_n 3, 1) := by decide +kernel
theorem dX6_act_80 : decode cX6_act 80 = .ok (.aload_n 0, 1) := by decide +kernel
theorem dX6_act_81 : decode cX6_act 81 = .ok (.getfield 90, 3) := by decide +kernel
theorem dX6_act_84 : decode cX6_act 84 = .ok (.iload_n 1, 1) := by decide +kernel
theorem dX6_act_85 : decode cX6_act 85 = .ok (.iaload, 1) := by decide +kernel
theorem dX6_act_86 : decode cX6_act 86 = .ok (.iastore, 1) := by decide +kernel
theorem dX6_act_87 : decode cX6_act 87 = .ok (.aload_n 0, 1) := by decide +kernel
theorem dX6_act_88 : decode cX6_act 88 = .ok (.getfield 75, 3) := by decide +kernel
theorem dX6_act_91 : decode cX6_act 91 = .ok (.iload_n 3, 1) := by decide +kernel
theorem dX6_act_92 : decode cX6_act 92 = .ok (.aload_n 0, 1) := by decide +kernel
theorem dX6_act_93 : decode cX6_act 93 = .ok (.getfield 93, 3) := by decide +kernel
theorem dX6_act_96 : decode cX6_act 96 = .ok (.iload_n 1, 1) := by decide +kernel
theorem dX6_act_97 : decode cX6_act 97 = .ok (.iaload, 1) := by decide +kernel
theorem dX6_act_98 : decode cX6_act 98 = .ok (.iastore, 1) := by decide +kernel
theorem dX6_act_99 : decode cX6_act 99 = .ok (.aload_n 0, 1) := by decide +kernel
theorem dX6_act_100 : decode cX6_act 100 = .ok (.getfield 69, 3) := by decide +kernel
theorem dX6_act_103 : decode cX6_act 103 = .ok (.iload_n 3, 1) := by decide +kernel
theorem dX6_act_104 : decode cX6_act 104 = .ok (.iconst (-1), 1) := by decide +kernel
theorem dX6_act_105 : decode cX6_act 105 = .ok (.iastore, 1) := by decide +kernel
theorem dX6_act_106 : decode cX6_act 106 = .ok (.goto 27, 3) := by decide +kernel
theorem dX6_act_109 : decode cX6_act 109 = .ok (.aload_n 0, 1) := by decide +kernel
theorem dX6_act_110 : decode cX6_act 110 = .ok (.getfield 69, 3) := by decide +kernel
theorem dX6_act_113 : decode cX6_act 113 = .ok (.iload_n 3, 1) := by decide +kernel
theorem dX6_act_114 : decode cX6_act 114 = .ok (.aload_n 0, 1) := by decide +kernel
theorem dX6_act_115 : decode cX6_act 115 = .ok (.getfield 90, 3) := by decide +kernel
theorem dX6_act_118 : decode cX6_act 118 = .ok (.iload_n 1, 1) := by decide +kernel
theorem dX6_act_119 : decode cX6_act 119 = .ok (.iaload, 1) := by decide +kernel
theorem dX6_act_120 : decode cX6_act 120 = .ok (.iastore, 1) := by decide +kernel
theorem dX6_act_121 : decode cX6_act 121 = .ok (.aload_n 0, 1) := by decide +kernel
theorem dX6_act_122 : decode cX6_act 122 = .ok (.getfield 78, 3) := by decide +kernel
theorem dX6_act_125 : decode cX6_act 125 = .ok (.iload_n 3, 1) := by decide +kernel
theorem dX6_act_126 : decode cX6_act 126 = .ok (.aload_n 0, 1) := by decide +kernel
theorem dX6_act_127 : decode cX6_act 127 = .ok (.getfield 93, 3) := by decide +kernel
theorem dX6_act_130 : decode cX6_act 130 = .ok (.iload_n 1, 1) := by decide +kernel
theorem dX6_act_131 : decode cX6_act 131 = .ok (.iaload, 1) := by decide +kernel
theorem dX6_act_132 : decode cX6_act 132 = .ok (.iastore, 1) := by decide +kernel
theorem dX6_act_133 : decode cX6_act 133 = .ok (.return_, 1) := by decide +kernel
set_option maxRecDepth 20000 in
theorem dX6_take_0 : decode cX6_take 0 = .ok (.aload_n 0, 1) := by decide +kernel
theorem dX6_take_1 : decode cX6_take 1 = .ok (.getfield 60, 3) := by decide +kernel
theorem dX6_take_4 : decode cX6_take 4 = .ok (.iload_n 1, 1) := by decide +kernel
theorem dX6_take_5 : decode cX6_take 5 = .ok (.baload, 1) := by decide +kernel
theorem dX6_take_6 : decode cX6_take 6 = .ok (.ifCond .eq 4, 3) := by decide +kernel
theorem dX6_take_9 : decode cX6_take 9 = .ok (.return_, 1) := by decide +kernel
theorem dX6_take_10 : decode cX6_take 10 = .ok (.iconst 0, 1) := by decide +kernel
theorem dX6_take_11 : decode cX6_take 11 = .ok (.istore_n 2, 1) := by decide +kernel
theorem dX6_take_12 : decode cX6_take 12 = .ok (.iconst 0, 1) := by decide +kernel
theorem dX6_take_13 : decode cX6_take 13 = .ok (.istore_n 3, 1) := by decide +kernel
theorem dX6_take_14 : decode cX6_take 14 = .ok (.iload_n 3, 1) := by decide +kernel
theorem dX6_take_15 : decode cX6_take 15 = .ok (.aload_n 0, 1) := by decide +kernel
theorem dX6_take_16 : decode cX6_take 16 = .ok (.getfield 141, 3) := by decide +kernel
theorem dX6_take_19 : decode cX6_take 19 = .ok (.if_icmp .ge 115, 3) := by decide +kernel
theorem dX6_take_22 : decode cX6_take 22 = .ok (.aload_n 0, 1) := by decide +kernel
theorem dX6_take_23 : decode cX6_take 23 = .ok (.getfield 81, 3) := by decide +kernel
theorem dX6_take_26 : decode cX6_take 26 = .ok (.iload_n 3, 1) := by decide +kernel
theorem dX6_take_27 : decode cX6_take 27 = .ok (.iaload, 1) := by decide +kernel
theorem dX6_take_28 : decode cX6_take 28 = .ok (.iload_n 1, 1) := by decide +kernel
theorem dX6_take_29 : decode cX6_take 29 = .ok (.if_icmp .ne 24, 3) := by decide +kernel
theorem dX6_take_32 : decode cX6_take 32 = .ok (.aload_n 0, 1) := by decide +kernel
theorem dX6_take_33 : decode cX6_take 33 = .ok (.getfield 87, 3) := by decide +kernel
theorem dX6_take_36 : decode cX6_take 36 = .ok (.iload_n 3, 1) := by decide +kernel
theorem dX6_take_37 : decode cX6_take 37 = .ok (.iaload, 1) := by decide +kernel
theorem dX6_take_38 : decode cX6_take 38 = .ok (.aload_n 0, 1) := by decide +kernel
theorem dX6_take_39 : decode cX6_take 39 = .ok (.getfield 130, 3) := by decide +kernel
theorem dX6_take_42 : decode cX6_take 42 = .ok (.if_icmp .gt 11, 3) := by decide +kernel
theorem dX6_take_45 : decode cX6_take 45 = .ok (.aload_n 0, 1) := by decide +kernel
theorem dX6_take_46 : decode cX6_take 46 = .ok (.iload_n 3, 1) := by decide +kernel
theorem dX6_take_47 : decode cX6_take 47 = .ok (.invokevirtual 157, 3) := by decide +kernel
theorem dX6_take_50 : decode cX6_take 50 = .ok (.goto 78, 3) := by decide +kernel
theorem dX6_take_53 : decode cX6_take 53 = .ok (.aload_n 0, 1) := by decide +kernel
theorem dX6_take_54 : decode cX6_take 54 = .ok (.getfield 81, 3) := by decide +kernel
theorem dX6_take_57 : decode cX6_take 57 = .ok (.iload_n 2, 1) := by decide +kernel
theorem dX6_take_58 : decode cX6_take 58 = .ok (.aload_n 0, 1) := by decide +kernel
theorem dX6_take_59 : decode cX6_take 59 = .ok (.getfield 81, 3) := by decide +kernel
theorem dX6_take_62 : decode cX6_take 62 = .ok (.iload_n 3, 1) := by decide +kernel
theorem dX6_take_63 : decode cX6_take 63 = .ok (.iaload, 1) := by decide +kernel
theorem dX6_take_64 : decode cX6_take 64 = .ok (.iastore, 1) := by decide +kernel
theorem dX6_take_65 : decode cX6_take 65 = .ok (.aload_n 0, 1) := by decide +kernel
theorem dX6_take_66 : decode cX6_take 66 = .ok (.getfield 84, 3) := by decide +kernel
theorem dX6_take_69 : decode cX6_take 69 = .ok (.iload_n 2, 1) := by decide +kernel
theorem dX6_take_70 : decode cX6_take 70 = .ok (.aload_n 0, 1) := by decide +kernel
theorem dX6_take_71 : decode cX6_take 71 = .ok (.getfield 84, 3) := by decide +kernel
theorem dX6_take_74 : decode cX6_take 74 = .ok (.iload_n 3, 1) := by decide +kernel
theorem dX6_take_75 : decode cX6_take 75 = .ok (.iaload, 1) := by decide +kernel
theorem dX6_take_76 : decode cX6_take 76 = .ok (.iastore, 1) := by decide +kernel
theorem dX6_take_77 : decode cX6_take 77 = .ok (.aload_n 0, 1) := by decide +kernel
theorem dX6_take_78 : decode cX6_take 78 = .ok (.getfield 96, 3) := by decide +kernel
theorem dX6_take_81 : decode cX6_take 81 = .ok (.iload_n 2, 1) := by decide +kernel
theorem dX6_take_82 : decode cX6_take 82 = .ok (.aload_n 0, 1) := by decide +kernel
theorem dX6_take_83 : decode cX6_take 83 = .ok (.getfield 96, 3) := by decide +kernel
theorem dX6_take_86 : decode cX6_take 86 = .ok (.iload_n 3, 1) := by decide +kernel
theorem dX6_take_87 : decode cX6_take 87 = .ok (.baload, 1) := by decide +kernel
theorem dX6_take_88 : decode cX6_take 88 = .ok (.bastore, 1) := by decide +kernel
theorem dX6_take_89 : decode cX6_take 89 = .ok (.aload_n 0, 1) := by decide +kernel
theorem dX6_take_90 : decode cX6_take 90 = .ok (.getfield 87, 3) := by decide +kernel
theorem dX6_take_93 : decode cX6_take 93 = .ok (.iload_n 2, 1) := by decide +kernel
theorem dX6_take_94 : decode cX6_take 94 = .ok (.aload_n 0, 1) := by decide +kernel
theorem dX6_take_95 : decode cX6_take 95 = .ok (.getfield 87, 3) := by decide +kernel
theorem dX6_take_98 : decode cX6_take 98 = .ok (.iload_n 3, 1) := by decide +kernel
theorem dX6_take_99 : decode cX6_take 99 = .ok (.iaload, 1) := by decide +kernel
theorem dX6_take_100 : decode cX6_take 100 = .ok (.iastore, 1) := by decide +kernel
theorem dX6_take_101 : decode cX6_take 101 = .ok (.aload_n 0, 1) := by decide +kernel
theorem dX6_take_102 : decode cX6_take 102 = .ok (.getfield 90, 3) := by decide +kernel
theorem dX6_take_105 : decode cX6_take 105 = .ok (.iload_n 2, 1) := by decide +kernel
theorem dX6_take_106 : decode cX6_take 106 = .ok (.aload_n 0, 1) := by decide +kernel
theorem dX6_take_107 : decode cX6_take 107 = .ok (.getfield 90, 3) := by decide +kernel
theorem dX6_take_110 : decode cX6_take 110 = .ok (.iload_n 3, 1) := by decide +kernel
theorem dX6_take_111 : decode cX6_take 111 = .ok (.iaload, 1) := by decide +kernel
theorem dX6_take_112 : decode cX6_take 112 = .ok (.iastore, 1) := by decide +kernel
theorem dX6_take_113 : decode cX6_take 113 = .ok (.aload_n 0, 1) := by decide +kernel
theorem dX6_take_114 : decode cX6_take 114 = .ok (.getfield 93, 3) := by decide +kernel
theorem dX6_take_117 : decode cX6_take 117 = .ok (.iload_n 2, 1) := by decide +kernel
theorem dX6_take_118 : decode cX6_take 118 = .ok (.aload_n 0, 1) := by decide +kernel
theorem dX6_take_119 : decode cX6_take 119 = .ok (.getfield 93, 3) := by decide +kernel
theorem dX6_take_122 : decode cX6_take 122 = .ok (.iload_n 3, 1) := by decide +kernel
theorem dX6_take_123 : decode cX6_take 123 = .ok (.iaload, 1) := by decide +kernel
theorem dX6_take_124 : decode cX6_take 124 = .ok (.iastore, 1) := by decide +kernel
theorem dX6_take_125 : decode cX6_take 125 = .ok (.iinc 2 1, 3) := by decide +kernel
theorem dX6_take_128 : decode cX6_take 128 = .ok (.iinc 3 1, 3) := by decide +kernel
theorem dX6_take_131 : decode cX6_take 131 = .ok (.goto (-117), 3) := by decide +kernel
theorem dX6_take_134 : decode cX6_take 134 = .ok (.aload_n 0, 1) := by decide +kernel
theorem dX6_take_135 : decode cX6_take 135 = .ok (.iload_n 2, 1) := by decide +kernel
theorem dX6_take_136 : decode cX6_take 136 = .ok (.putfield 141, 3) := by decide +kernel
theorem dX6_take_139 : decode cX6_take 139 = .ok (.return_, 1) := by decide +kernel
theorem dX6_isOver_0 : decode cX6_isOver 0 = .ok (.aload_n 0, 1) := by decide +kernel
theorem dX6_isOver_1 : decode cX6_isOver 1 = .ok (.getfield 47, 3) := by decide +kernel
theorem dX6_isOver_4 : decode cX6_isOver 4 = .ok (.iload_n 1, 1) := by decide +kernel
theorem dX6_isOver_5 : decode cX6_isOver 5 = .ok (.iaload, 1) := by decide +kernel
theorem dX6_isOver_6 : decode cX6_isOver 6 = .ok (.ifCond .le 5, 3) := by decide +kernel
theorem dX6_isOver_9 : decode cX6_isOver 9 = .ok (.iconst 0, 1) := by decide +kernel
theorem dX6_isOver_10 : decode cX6_isOver 10 = .ok (.ireturn, 1) := by decide +kernel
theorem dX6_isOver_11 : decode cX6_isOver 11 = .ok (.aload_n 0, 1) := by decide +kernel
theorem dX6_isOver_12 : decode cX6_isOver 12 = .ok (.getfield 35, 3) := by decide +kernel
theorem dX6_isOver_15 : decode cX6_isOver 15 = .ok (.iload_n 1, 1) := by decide +kernel
theorem dX6_isOver_16 : decode cX6_isOver 16 = .ok (.iaload, 1) := by decide +kernel
theorem dX6_isOver_17 : decode cX6_isOver 17 = .ok (.iconst 3, 1) := by decide +kernel
theorem dX6_isOver_18 : decode cX6_isOver 18 = .ok (.if_icmp .eq 5, 3) := by decide +kernel
theorem dX6_isOver_21 : decode cX6_isOver 21 = .ok (.iconst 1, 1) := by decide +kernel
theorem dX6_isOver_22 : decode cX6_isOver 22 = .ok (.ireturn, 1) := by decide +kernel
theorem dX6_isOver_23 : decode cX6_isOver 23 = .ok (.aload_n 0, 1) := by decide +kernel
theorem dX6_isOver_24 : decode cX6_isOver 24 = .ok (.getfield 130, 3) := by decide +kernel
theorem dX6_isOver_27 : decode cX6_isOver 27 = .ok (.aload_n 0, 1) := by decide +kernel
theorem dX6_isOver_28 : decode cX6_isOver 28 = .ok (.getfield 38, 3) := by decide +kernel
theorem dX6_isOver_31 : decode cX6_isOver 31 = .ok (.iload_n 1, 1) := by decide +kernel
theorem dX6_isOver_32 : decode cX6_isOver 32 = .ok (.iaload, 1) := by decide +kernel
theorem dX6_isOver_33 : decode cX6_isOver 33 = .ok (.isub, 1) := by decide +kernel
theorem dX6_isOver_34 : decode cX6_isOver 34 = .ok (.aload_n 0, 1) := by decide +kernel
theorem dX6_isOver_35 : decode cX6_isOver 35 = .ok (.getfield 13, 3) := by decide +kernel
theorem dX6_isOver_38 : decode cX6_isOver 38 = .ok (.if_icmp .lt 5, 3) := by decide +kernel
theorem dX6_isOver_41 : decode cX6_isOver 41 = .ok (.iconst 1, 1) := by decide +kernel
theorem dX6_isOver_42 : decode cX6_isOver 42 = .ok (.ireturn, 1) := by decide +kernel
theorem dX6_isOver_43 : decode cX6_isOver 43 = .ok (.aload_n 0, 1) := by decide +kernel
theorem dX6_isOver_44 : decode cX6_isOver 44 = .ok (.getfield 130, 3) := by decide +kernel
theorem dX6_isOver_47 : decode cX6_isOver 47 = .ok (.aload_n 0, 1) := by decide +kernel
theorem dX6_isOver_48 : decode cX6_isOver 48 = .ok (.getfield 38, 3) := by decide +kernel
theorem dX6_isOver_51 : decode cX6_isOver 51 = .ok (.iload_n 1, 1) := by decide +kernel
theorem dX6_isOver_52 : decode cX6_isOver 52 = .ok (.iaload, 1) := by decide +kernel
theorem dX6_isOver_53 : decode cX6_isOver 53 = .ok (.isub, 1) := by decide +kernel
theorem dX6_isOver_54 : decode cX6_isOver 54 = .ok (.aload_n 0, 1) := by decide +kernel
theorem dX6_isOver_55 : decode cX6_isOver 55 = .ok (.getfield 7, 3) := by decide +kernel
theorem dX6_isOver_58 : decode cX6_isOver 58 = .ok (.if_icmp .lt 35, 3) := by decide +kernel
theorem dX6_isOver_61 : decode cX6_isOver 61 = .ok (.aload_n 0, 1) := by decide +kernel
theorem dX6_isOver_62 : decode cX6_isOver 62 = .ok (.getfield 44, 3) := by decide +kernel
theorem dX6_isOver_65 : decode cX6_isOver 65 = .ok (.iload_n 1, 1) := by decide +kernel
theorem dX6_isOver_66 : decode cX6_isOver 66 = .ok (.iaload, 1) := by decide +kernel
theorem dX6_isOver_67 : decode cX6_isOver 67 = .ok (.iconst (-1), 1) := by decide +kernel
theorem dX6_isOver_68 : decode cX6_isOver 68 = .ok (.if_icmp .eq 21, 3) := by decide +kernel
theorem dX6_isOver_71 : decode cX6_isOver 71 = .ok (.aload_n 0, 1) := by decide +kernel
theorem dX6_isOver_72 : decode cX6_isOver 72 = .ok (.getfield 130, 3) := by decide +kernel
theorem dX6_isOver_75 : decode cX6_isOver 75 = .ok (.aload_n 0, 1) := by decide +kernel
theorem dX6_isOver_76 : decode cX6_isOver 76 = .ok (.getfield 44, 3) := by decide +kernel
theorem dX6_isOver_79 : decode cX6_isOver 79 = .ok (.iload_n 1, 1) := by decide +kernel
theorem dX6_isOver_80 : decode cX6_isOver 80 = .ok (.iaload, 1) := by decide +kernel
theorem dX6_isOver_81 : decode cX6_isOver 81 = .ok (.isub, 1) := by decide +kernel
theorem dX6_isOver_82 : decode cX6_isOver 82 = .ok (.aload_n 0, 1) := by decide +kernel
theorem dX6_isOver_83 : decode cX6_isOver 83 = .ok (.getfield 7, 3) := by decide +kernel
theorem dX6_isOver_86 : decode cX6_isOver 86 = .ok (.if_icmp .lt 7, 3) := by decide +kernel
theorem dX6_isOver_89 : decode cX6_isOver 89 = .ok (.iconst 1, 1) := by decide +kernel
theorem dX6_isOver_90 : decode cX6_isOver 90 = .ok (.goto 4, 3) := by decide +kernel
theorem dX6_isOver_93 : decode cX6_isOver 93 = .ok (.iconst 0, 1) := by decide +kernel
theorem dX6_isOver_94 : decode cX6_isOver 94 = .ok (.ireturn, 1) := by decide +kernel
theorem dX6_next_0 : decode cX6_next 0 = .ok (.aload_n 0, 1) := by decide +kernel
theorem dX6_next_1 : decode cX6_next 1 = .ok (.getfield 35, 3) := by decide +kernel
theorem dX6_next_4 : decode cX6_next 4 = .ok (.iload_n 1, 1) := by decide +kernel
theorem dX6_next_5 : decode cX6_next 5 = .ok (.iaload, 1) := by decide +kernel
theorem dX6_next_6 : decode cX6_next 6 = .ok (.tableswitch 86 1 4 #[30, 45, 69, 71], 30) := by decide +kernel
theorem dX6_next_36 : decode cX6_next 36 = .ok (.aload_n 0, 1) := by decide +kernel
theorem dX6_next_37 : decode cX6_next 37 = .ok (.getfield 53, 3) := by decide +kernel
theorem dX6_next_40 : decode cX6_next 40 = .ok (.iload_n 1, 1) := by decide +kernel
theorem dX6_next_41 : decode cX6_next 41 = .ok (.baload, 1) := by decide +kernel
theorem dX6_next_42 : decode cX6_next 42 = .ok (.ifCond .eq 7, 3) := by decide +kernel
theorem dX6_next_45 : decode cX6_next 45 = .ok (.iconst 4, 1) := by decide +kernel
theorem dX6_next_46 : decode cX6_next 46 = .ok (.goto 4, 3) := by decide +kernel
theorem dX6_next_49 : decode cX6_next 49 = .ok (.iconst 2, 1) := by decide +kernel
theorem dX6_next_50 : decode cX6_next 50 = .ok (.ireturn, 1) := by decide +kernel
theorem dX6_next_51 : decode cX6_next 51 = .ok (.aload_n 0, 1) := by decide +kernel
theorem dX6_next_52 : decode cX6_next 52 = .ok (.getfield 16, 3) := by decide +kernel
theorem dX6_next_55 : decode cX6_next 55 = .ok (.iload_n 1, 1) := by decide +kernel
theorem dX6_next_56 : decode cX6_next 56 = .ok (.iaload, 1) := by decide +kernel
theorem dX6_next_57 : decode cX6_next 57 = .ok (.ifCond .ne 16, 3) := by decide +kernel
theorem dX6_next_60 : decode cX6_next 60 = .ok (.aload_n 0, 1) := by decide +kernel
theorem dX6_next_61 : decode cX6_next 61 = .ok (.getfield 53, 3) := by decide +kernel
theorem dX6_next_64 : decode cX6_next 64 = .ok (.iload_n 1, 1) := by decide +kernel
theorem dX6_next_65 : decode cX6_next 65 = .ok (.baload, 1) := by decide +kernel
theorem dX6_next_66 : decode cX6_next 66 = .ok (.ifCond .ne 7, 3) := by decide +kernel
theorem dX6_next_69 : decode cX6_next 69 = .ok (.iconst 3, 1) := by decide +kernel
theorem dX6_next_70 : decode cX6_next 70 = .ok (.goto 4, 3) := by decide +kernel
theorem dX6_next_73 : decode cX6_next 73 = .ok (.iconst 0, 1) := by decide +kernel
theorem dX6_next_74 : decode cX6_next 74 = .ok (.ireturn, 1) := by decide +kernel
theorem dX6_next_75 : decode cX6_next 75 = .ok (.iconst 4, 1) := by decide +kernel
theorem dX6_next_76 : decode cX6_next 76 = .ok (.ireturn, 1) := by decide +kernel
theorem dX6_next_77 : decode cX6_next 77 = .ok (.aload_n 0, 1) := by decide +kernel
theorem dX6_next_78 : decode cX6_next 78 = .ok (.getfield 53, 3) := by decide +kernel
theorem dX6_next_81 : decode cX6_next 81 = .ok (.iload_n 1, 1) := by decide +kernel
theorem dX6_next_82 : decode cX6_next 82 = .ok (.baload, 1) := by decide +kernel
theorem dX6_next_83 : decode cX6_next 83 = .ok (.ifCond .eq 7, 3) := by decide +kernel
theorem dX6_next_86 : decode cX6_next 86 = .ok (.iconst 2, 1) := by decide +kernel
theorem dX6_next_87 : decode cX6_next 87 = .ok (.goto 4, 3) := by decide +kernel
theorem dX6_next_90 : decode cX6_next 90 = .ok (.iconst 0, 1) := by decide +kernel
theorem dX6_next_91 : decode cX6_next 91 = .ok (.ireturn, 1) := by decide +kernel
theorem dX6_next_92 : decode cX6_next 92 = .ok (.iconst 2, 1) := by decide +kernel
theorem dX6_next_93 : decode cX6_next 93 = .ok (.ireturn, 1) := by decide +kernel
set_option maxRecDepth 20000 in
theorem dX6_goesOn_0 : decode cX6_goesOn 0 = .ok (.aload_n 0, 1) := by decide +kernel
theorem dX6_goesOn_1 : decode cX6_goesOn 1 = .ok (.getfield 35, 3) := by decide +kernel
theorem dX6_goesOn_4 : decode cX6_goesOn 4 = .ok (.iload_n 1, 1) := by decide +kernel
theorem dX6_goesOn_5 : decode cX6_goesOn 5 = .ok (.iaload, 1) := by decide +kernel
theorem dX6_goesOn_6 : decode cX6_goesOn 6 = .ok (.ifCond .eq 67, 3) := by decide +kernel
theorem dX6_goesOn_9 : decode cX6_goesOn 9 = .ok (.aload_n 0, 1) := by decide +kernel
theorem dX6_goesOn_10 : decode cX6_goesOn 10 = .ok (.iload_n 1, 1) := by decide +kernel
theorem dX6_goesOn_11 : decode cX6_goesOn 11 = .ok (.invokevirtual 161, 3) := by decide +kernel
theorem dX6_goesOn_14 : decode cX6_goesOn 14 = .ok (.ifCond .eq 59, 3) := by decide +kernel
theorem dX6_goesOn_17 : decode cX6_goesOn 17 = .ok (.aload_n 0, 1) := by decide +kernel
theorem dX6_goesOn_18 : decode cX6_goesOn 18 = .ok (.iload_n 1, 1) := by decide +kernel
theorem dX6_goesOn_19 : decode cX6_goesOn 19 = .ok (.invokevirtual 164, 3) := by decide +kernel
theorem dX6_goesOn_22 : decode cX6_goesOn 22 = .ok (.istore_n 2, 1) := by decide +kernel
theorem dX6_goesOn_23 : decode cX6_goesOn 23 = .ok (.iload_n 2, 1) := by decide +kernel
theorem dX6_goesOn_24 : decode cX6_goesOn 24 = .ok (.ifCond .ne 40, 3) := by decide +kernel
theorem dX6_goesOn_27 : decode cX6_goesOn 27 = .ok (.aload_n 0, 1) := by decide +kernel
theorem dX6_goesOn_28 : decode cX6_goesOn 28 = .ok (.getfield 35, 3) := by decide +kernel
theorem dX6_goesOn_31 : decode cX6_goesOn 31 = .ok (.iload_n 1, 1) := by decide +kernel
theorem dX6_goesOn_32 : decode cX6_goesOn 32 = .ok (.iconst 0, 1) := by decide +kernel
theorem dX6_goesOn_33 : decode cX6_goesOn 33 = .ok (.iastore, 1) := by decide +kernel
theorem dX6_goesOn_34 : decode cX6_goesOn 34 = .ok (.aload_n 0, 1) := by decide +kernel
theorem dX6_goesOn_35 : decode cX6_goesOn 35 = .ok (.getfield 50, 3) := by decide +kernel
theorem dX6_goesOn_38 : decode cX6_goesOn 38 = .ok (.iload_n 1, 1) := by decide +kernel
theorem dX6_goesOn_39 : decode cX6_goesOn 39 = .ok (.iaload, 1) := by decide +kernel
theorem dX6_goesOn_40 : decode cX6_goesOn 40 = .ok (.sipush 500, 3) := by decide +kernel
theorem dX6_goesOn_43 : decode cX6_goesOn 43 = .ok (.if_icmp .ge 27, 3) := by decide +kernel
theorem dX6_goesOn_46 : decode cX6_goesOn 46 = .ok (.aload_n 0, 1) := by decide +kernel
theorem dX6_goesOn_47 : decode cX6_goesOn 47 = .ok (.getfield 108, 3) := by decide +kernel
theorem dX6_goesOn_50 : decode cX6_goesOn 50 = .ok (.aload_n 0, 1) := by decide +kernel
theorem dX6_goesOn_51 : decode cX6_goesOn 51 = .ok (.getfield 50, 3) := by decide +kernel
theorem dX6_goesOn_54 : decode cX6_goesOn 54 = .ok (.iload_n 1, 1) := by decide +kernel
theorem dX6_goesOn_55 : decode cX6_goesOn 55 = .ok (.iaload, 1) := by decide +kernel
theorem dX6_goesOn_56 : decode cX6_goesOn 56 = .ok (.aload_n 0, 1) := by decide +kernel
theorem dX6_goesOn_57 : decode cX6_goesOn 57 = .ok (.getfield 130, 3) := by decide +kernel
theorem dX6_goesOn_60 : decode cX6_goesOn 60 = .ok (.iastore, 1) := by decide +kernel
theorem dX6_goesOn_61 : decode cX6_goesOn 61 = .ok (.goto 9, 3) := by decide +kernel
theorem dX6_goesOn_64 : decode cX6_goesOn 64 = .ok (.aload_n 0, 1) := by decide +kernel
theorem dX6_goesOn_65 : decode cX6_goesOn 65 = .ok (.iload_n 1, 1) := by decide +kernel
theorem dX6_goesOn_66 : decode cX6_goesOn 66 = .ok (.iload_n 2, 1) := by decide +kernel
theorem dX6_goesOn_67 : decode cX6_goesOn 67 = .ok (.invokevirtual 168, 3) := by decide +kernel
theorem dX6_goesOn_70 : decode cX6_goesOn 70 = .ok (.goto (-70), 3) := by decide +kernel
theorem dX6_goesOn_73 : decode cX6_goesOn 73 = .ok (.return_, 1) := by decide +kernel
set_option maxRecDepth 20000 in
theorem dX6_tick_0 : decode cX6_tick 0 = .ok (.aload_n 0, 1) := by decide +kernel
theorem dX6_tick_1 : decode cX6_tick 1 = .ok (.iconst 0, 1) := by decide +kernel
theorem dX6_tick_2 : decode cX6_tick 2 = .ok (.putfield 120, 3) := by decide +kernel
theorem dX6_tick_5 : decode cX6_tick 5 = .ok (.iload_n 1, 1) := by decide +kernel
theorem dX6_tick_6 : decode cX6_tick 6 = .ok (.iconst 0, 1) := by decide +kernel
theorem dX6_tick_7 : decode cX6_tick 7 = .ok (.sipush 2000, 3) := by decide +kernel
theorem dX6_tick_10 : decode cX6_tick 10 = .ok (.invokestatic 126, 3) := by decide +kernel
theorem dX6_tick_13 : decode cX6_tick 13 = .ok (.ifCond .eq 14, 3) := by decide +kernel
theorem dX6_tick_16 : decode cX6_tick 16 = .ok (.aload_n 0, 1) := by decide +kernel
theorem dX6_tick_17 : decode cX6_tick 17 = .ok (.getfield 130, 3) := by decide +kernel
theorem dX6_tick_20 : decode cX6_tick 20 = .ok (.iload_n 1, 1) := by decide +kernel
theorem dX6_tick_21 : decode cX6_tick 21 = .ok (.iadd, 1) := by decide +kernel
theorem dX6_tick_22 : decode cX6_tick 22 = .ok (.ldc 172, 2) := by decide +kernel
theorem dX6_tick_24 : decode cX6_tick 24 = .ok (.if_icmp .le 5, 3) := by decide +kernel
theorem dX6_tick_27 : decode cX6_tick 27 = .ok (.iconst (-1), 1) := by decide +kernel
theorem dX6_tick_28 : decode cX6_tick 28 = .ok (.ireturn, 1) := by decide +kernel
theorem dX6_tick_29 : decode cX6_tick 29 = .ok (.iconst 0, 1) := by decide +kernel
theorem dX6_tick_30 : decode cX6_tick 30 = .ok (.istore_n 2, 1) := by decide +kernel
theorem dX6_tick_31 : decode cX6_tick 31 = .ok (.iload_n 2, 1) := by decide +kernel
theorem dX6_tick_32 : decode cX6_tick 32 = .ok (.iload_n 1, 1) := by decide +kernel
theorem dX6_tick_33 : decode cX6_tick 33 = .ok (.if_icmp .ge 69, 3) := by decide +kernel
theorem dX6_tick_36 : decode cX6_tick 36 = .ok (.aload_n 0, 1) := by decide +kernel
theorem dX6_tick_37 : decode cX6_tick 37 = .ok (.dup, 1) := by decide +kernel
theorem dX6_tick_38 : decode cX6_tick 38 = .ok (.getfield 130, 3) := by decide +kernel
theorem dX6_tick_41 : decode cX6_tick 41 = .ok (.iconst 1, 1) := by decide +kernel
theorem dX6_tick_42 : decode cX6_tick 42 = .ok (.iadd, 1) := by decide +kernel
theorem dX6_tick_43 : decode cX6_tick 43 = .ok (.putfield 130, 3) := by decide +kernel
theorem dX6_tick_46 : decode cX6_tick 46 = .ok (.iconst 0, 1) := by decide +kernel
theorem dX6_tick_47 : decode cX6_tick 47 = .ok (.istore_n 3, 1) := by decide +kernel
theorem dX6_tick_48 : decode cX6_tick 48 = .ok (.iload_n 3, 1) := by decide +kernel
theorem dX6_tick_49 : decode cX6_tick 49 = .ok (.bipush 16, 2) := by decide +kernel
theorem dX6_tick_51 : decode cX6_tick 51 = .ok (.if_icmp .ge 14, 3) := by decide +kernel
theorem dX6_tick_54 : decode cX6_tick 54 = .ok (.aload_n 0, 1) := by decide +kernel
theorem dX6_tick_55 : decode cX6_tick 55 = .ok (.iload_n 3, 1) := by decide +kernel
theorem dX6_tick_56 : decode cX6_tick 56 = .ok (.invokevirtual 173, 3) := by decide +kernel
theorem dX6_tick_59 : decode cX6_tick 59 = .ok (.iinc 3 1, 3) := by decide +kernel
theorem dX6_tick_62 : decode cX6_tick 62 = .ok (.goto (-14), 3) := by decide +kernel
theorem dX6_tick_65 : decode cX6_tick 65 = .ok (.iconst 0, 1) := by decide +kernel
theorem dX6_tick_66 : decode cX6_tick 66 = .ok (.istore_n 3, 1) := by decide +kernel
theorem dX6_tick_67 : decode cX6_tick 67 = .ok (.iload_n 3, 1) := by decide +kernel
theorem dX6_tick_68 : decode cX6_tick 68 = .ok (.aload_n 0, 1) := by decide +kernel
theorem dX6_tick_69 : decode cX6_tick 69 = .ok (.getfield 123, 3) := by decide +kernel
theorem dX6_tick_72 : decode cX6_tick 72 = .ok (.if_icmp .ge 24, 3) := by decide +kernel
theorem dX6_tick_75 : decode cX6_tick 75 = .ok (.aload_n 0, 1) := by decide +kernel
theorem dX6_tick_76 : decode cX6_tick 76 = .ok (.getfield 60, 3) := by decide +kernel
theorem dX6_tick_79 : decode cX6_tick 79 = .ok (.bipush 16, 2) := by decide +kernel
theorem dX6_tick_81 : decode cX6_tick 81 = .ok (.baload, 1) := by decide +kernel
theorem dX6_tick_82 : decode cX6_tick 82 = .ok (.ifCond .ne 14, 3) := by decide +kernel
theorem dX6_tick_85 : decode cX6_tick 85 = .ok (.aload_n 0, 1) := by decide +kernel
theorem dX6_tick_86 : decode cX6_tick 86 = .ok (.iload_n 3, 1) := by decide +kernel
theorem dX6_tick_87 : decode cX6_tick 87 = .ok (.invokevirtual 176, 3) := by decide +kernel
theorem dX6_tick_90 : decode cX6_tick 90 = .ok (.iinc 3 1, 3) := by decide +kernel
theorem dX6_tick_93 : decode cX6_tick 93 = .ok (.goto (-26), 3) := by decide +kernel
theorem dX6_tick_96 : decode cX6_tick 96 = .ok (.iinc 2 1, 3) := by decide +kernel
theorem dX6_tick_99 : decode cX6_tick 99 = .ok (.goto (-68), 3) := by decide +kernel
theorem dX6_tick_102 : decode cX6_tick 102 = .ok (.aload_n 0, 1) := by decide +kernel
theorem dX6_tick_103 : decode cX6_tick 103 = .ok (.getfield 130, 3) := by decide +kernel
theorem dX6_tick_106 : decode cX6_tick 106 = .ok (.ireturn, 1) := by decide +kernel
set_option maxRecDepth 20000 in
theorem dX6_start_0 : decode cX6_start 0 = .ok (.aload_n 0, 1) := by decide +kernel
theorem dX6_start_1 : decode cX6_start 1 = .ok (.getfield 29, 3) := by decide +kernel
theorem dX6_start_4 : decode cX6_start 4 = .ok (.iload_n 1, 1) := by decide +kernel
theorem dX6_start_5 : decode cX6_start 5 = .ok (.dup2, 1) := by decide +kernel
theorem dX6_start_6 : decode cX6_start 6 = .ok (.iaload, 1) := by decide +kernel
theorem dX6_start_7 : decode cX6_start 7 = .ok (.iconst 1, 1) := by decide +kernel
theorem dX6_start_8 : decode cX6_start 8 = .ok (.iadd, 1) := by decide +kernel
theorem dX6_start_9 : decode cX6_start 9 = .ok (.iastore, 1) := by decide +kernel
theorem dX6_start_10 : decode cX6_start 10 = .ok (.aload_n 0, 1) := by decide +kernel
theorem dX6_start_11 : decode cX6_start 11 = .ok (.getfield 32, 3) := by decide +kernel
theorem dX6_start_14 : decode cX6_start 14 = .ok (.iload_n 1, 1) := by decide +kernel
theorem dX6_start_15 : decode cX6_start 15 = .ok (.aload_n 0, 1) := by decide +kernel
theorem dX6_start_16 : decode cX6_start 16 = .ok (.getfield 130, 3) := by decide +kernel
theorem dX6_start_19 : decode cX6_start 19 = .ok (.iastore, 1) := by decide +kernel
theorem dX6_start_20 : decode cX6_start 20 = .ok (.aload_n 0, 1) := by decide +kernel
theorem dX6_start_21 : decode cX6_start 21 = .ok (.getfield 53, 3) := by decide +kernel
theorem dX6_start_24 : decode cX6_start 24 = .ok (.iload_n 1, 1) := by decide +kernel
theorem dX6_start_25 : decode cX6_start 25 = .ok (.iload_n 2, 1) := by decide +kernel
theorem dX6_start_26 : decode cX6_start 26 = .ok (.ifCond .eq 16, 3) := by decide +kernel
theorem dX6_start_29 : decode cX6_start 29 = .ok (.aload_n 0, 1) := by decide +kernel
theorem dX6_start_30 : decode cX6_start 30 = .ok (.getfield 16, 3) := by decide +kernel
theorem dX6_start_33 : decode cX6_start 33 = .ok (.iload_n 1, 1) := by decide +kernel
theorem dX6_start_34 : decode cX6_start 34 = .ok (.iaload, 1) := by decide +kernel
theorem dX6_start_35 : decode cX6_start 35 = .ok (.ifCond .ne 7, 3) := by decide +kernel
theorem dX6_start_38 : decode cX6_start 38 = .ok (.iconst 1, 1) := by decide +kernel
theorem dX6_start_39 : decode cX6_start 39 = .ok (.goto 4, 3) := by decide +kernel
theorem dX6_start_42 : decode cX6_start 42 = .ok (.iconst 0, 1) := by decide +kernel
theorem dX6_start_43 : decode cX6_start 43 = .ok (.bastore, 1) := by decide +kernel
theorem dX6_start_44 : decode cX6_start 44 = .ok (.aload_n 0, 1) := by decide +kernel
theorem dX6_start_45 : decode cX6_start 45 = .ok (.getfield 50, 3) := by decide +kernel
theorem dX6_start_48 : decode cX6_start 48 = .ok (.iload_n 1, 1) := by decide +kernel
theorem dX6_start_49 : decode cX6_start 49 = .ok (.aload_n 0, 1) := by decide +kernel
theorem dX6_start_50 : decode cX6_start 50 = .ok (.getfield 179, 3) := by decide +kernel
theorem dX6_start_53 : decode cX6_start 53 = .ok (.iastore, 1) := by decide +kernel
theorem dX6_start_54 : decode cX6_start 54 = .ok (.aload_n 0, 1) := by decide +kernel
theorem dX6_start_55 : decode cX6_start 55 = .ok (.getfield 179, 3) := by decide +kernel
theorem dX6_start_58 : decode cX6_start 58 = .ok (.sipush 500, 3) := by decide +kernel
theorem dX6_start_61 : decode cX6_start 61 = .ok (.if_icmp .ge 61, 3) := by decide +kernel
theorem dX6_start_64 : decode cX6_start 64 = .ok (.aload_n 0, 1) := by decide +kernel
theorem dX6_start_65 : decode cX6_start 65 = .ok (.getfield 99, 3) := by decide +kernel
theorem dX6_start_68 : decode cX6_start 68 = .ok (.aload_n 0, 1) := by decide +kernel
theorem dX6_start_69 : decode cX6_start 69 = .ok (.getfield 179, 3) := by decide +kernel
theorem dX6_start_72 : decode cX6_start 72 = .ok (.iload_n 1, 1) := by decide +kernel
theorem dX6_start_73 : decode cX6_start 73 = .ok (.iastore, 1) := by decide +kernel
theorem dX6_start_74 : decode cX6_start 74 = .ok (.aload_n 0, 1) := by decide +kernel
theorem dX6_start_75 : decode cX6_start 75 = .ok (.getfield 102, 3) := by decide +kernel
theorem dX6_start_78 : decode cX6_start 78 = .ok (.aload_n 0, 1) := by decide +kernel
theorem dX6_start_79 : decode cX6_start 79 = .ok (.getfield 179, 3) := by decide +kernel
theorem dX6_start_82 : decode cX6_start 82 = .ok (.aload_n 0, 1) := by decide +kernel
theorem dX6_start_83 : decode cX6_start 83 = .ok (.getfield 29, 3) := by decide +kernel
theorem dX6_start_86 : decode cX6_start 86 = .ok (.iload_n 1, 1) := by decide +kernel
theorem dX6_start_87 : decode cX6_start 87 = .ok (.iaload, 1) := by decide +kernel
theorem dX6_start_88 : decode cX6_start 88 = .ok (.iastore, 1) := by decide +kernel
theorem dX6_start_89 : decode cX6_start 89 = .ok (.aload_n 0, 1) := by decide +kernel
theorem dX6_start_90 : decode cX6_start 90 = .ok (.getfield 105, 3) := by decide +kernel
theorem dX6_start_93 : decode cX6_start 93 = .ok (.aload_n 0, 1) := by decide +kernel
theorem dX6_start_94 : decode cX6_start 94 = .ok (.getfield 179, 3) := by decide +kernel
theorem dX6_start_97 : decode cX6_start 97 = .ok (.aload_n 0, 1) := by decide +kernel
theorem dX6_start_98 : decode cX6_start 98 = .ok (.getfield 130, 3) := by decide +kernel
theorem dX6_start_101 : decode cX6_start 101 = .ok (.iastore, 1) := by decide +kernel
theorem dX6_start_102 : decode cX6_start 102 = .ok (.aload_n 0, 1) := by decide +kernel
theorem dX6_start_103 : decode cX6_start 103 = .ok (.getfield 108, 3) := by decide +kernel
theorem dX6_start_106 : decode cX6_start 106 = .ok (.aload_n 0, 1) := by decide +kernel
theorem dX6_start_107 : decode cX6_start 107 = .ok (.getfield 179, 3) := by decide +kernel
theorem dX6_start_110 : decode cX6_start 110 = .ok (.iconst (-1), 1) := by decide +kernel
theorem dX6_start_111 : decode cX6_start 111 = .ok (.iastore, 1) := by decide +kernel
theorem dX6_start_112 : decode cX6_start 112 = .ok (.aload_n 0, 1) := by decide +kernel
theorem dX6_start_113 : decode cX6_start 113 = .ok (.getfield 111, 3) := by decide +kernel
theorem dX6_start_116 : decode cX6_start 116 = .ok (.aload_n 0, 1) := by decide +kernel
theorem dX6_start_117 : decode cX6_start 117 = .ok (.getfield 179, 3) := by decide +kernel
theorem dX6_start_120 : decode cX6_start 120 = .ok (.iload_n 2, 1) := by decide +kernel
theorem dX6_start_121 : decode cX6_start 121 = .ok (.bastore, 1) := by decide +kernel
theorem dX6_start_122 : decode cX6_start 122 = .ok (.aload_n 0, 1) := by decide +kernel
theorem dX6_start_123 : decode cX6_start 123 = .ok (.dup, 1) := by decide +kernel
theorem dX6_start_124 : decode cX6_start 124 = .ok (.getfield 179, 3) := by decide +kernel
theorem dX6_start_127 : decode cX6_start 127 = .ok (.iconst 1, 1) := by decide +kernel
theorem dX6_start_128 : decode cX6_start 128 = .ok (.iadd, 1) := by decide +kernel
theorem dX6_start_129 : decode cX6_start 129 = .ok (.putfield 179, 3) := by decide +kernel
theorem dX6_start_132 : decode cX6_start 132 = .ok (.aload_n 0, 1) := by decide +kernel
theorem dX6_start_133 : decode cX6_start 133 = .ok (.iload_n 1, 1) := by decide +kernel
theorem dX6_start_134 : decode cX6_start 134 = .ok (.aload_n 0, 1) := by decide +kernel
theorem dX6_start_135 : decode cX6_start 135 = .ok (.getfield 16, 3) := by decide +kernel
theorem dX6_start_138 : decode cX6_start 138 = .ok (.iload_n 1, 1) := by decide +kernel
theorem dX6_start_139 : decode cX6_start 139 = .ok (.iaload, 1) := by decide +kernel
theorem dX6_start_140 : decode cX6_start 140 = .ok (.ifCond .ne 7, 3) := by decide +kernel
theorem dX6_start_143 : decode cX6_start 143 = .ok (.iconst 1, 1) := by decide +kernel
theorem dX6_start_144 : decode cX6_start 144 = .ok (.goto 4, 3) := by decide +kernel
theorem dX6_start_147 : decode cX6_start 147 = .ok (.iconst 5, 1) := by decide +kernel
theorem dX6_start_148 : decode cX6_start 148 = .ok (.invokevirtual 168, 3) := by decide +kernel
theorem dX6_start_151 : decode cX6_start 151 = .ok (.return_, 1) := by decide +kernel
set_option maxRecDepth 20000 in
theorem dX6_turn_0 : decode cX6_turn 0 = .ok (.aload_n 0, 1) := by decide +kernel
theorem dX6_turn_1 : decode cX6_turn 1 = .ok (.iconst 0, 1) := by decide +kernel
theorem dX6_turn_2 : decode cX6_turn 2 = .ok (.putfield 120, 3) := by decide +kernel
theorem dX6_turn_5 : decode cX6_turn 5 = .ok (.aload_n 0, 1) := by decide +kernel
theorem dX6_turn_6 : decode cX6_turn 6 = .ok (.iload_n 1, 1) := by decide +kernel
theorem dX6_turn_7 : decode cX6_turn 7 = .ok (.invokevirtual 133, 3) := by decide +kernel
theorem dX6_turn_10 : decode cX6_turn 10 = .ok (.ifCond .eq 22, 3) := by decide +kernel
theorem dX6_turn_13 : decode cX6_turn 13 = .ok (.aload_n 0, 1) := by decide +kernel
theorem dX6_turn_14 : decode cX6_turn 14 = .ok (.getfield 60, 3) := by decide +kernel
theorem dX6_turn_17 : decode cX6_turn 17 = .ok (.bipush 16, 2) := by decide +kernel
theorem dX6_turn_19 : decode cX6_turn 19 = .ok (.baload, 1) := by decide +kernel
theorem dX6_turn_20 : decode cX6_turn 20 = .ok (.ifCond .ne 12, 3) := by decide +kernel
theorem dX6_turn_23 : decode cX6_turn 23 = .ok (.aload_n 0, 1) := by decide +kernel
theorem dX6_turn_24 : decode cX6_turn 24 = .ok (.getfield 35, 3) := by decide +kernel
theorem dX6_turn_27 : decode cX6_turn 27 = .ok (.iload_n 1, 1) := by decide +kernel
theorem dX6_turn_28 : decode cX6_turn 28 = .ok (.iaload, 1) := by decide +kernel
theorem dX6_turn_29 : decode cX6_turn 29 = .ok (.ifCond .eq 5, 3) := by decide +kernel
theorem dX6_turn_32 : decode cX6_turn 32 = .ok (.iconst (-1), 1) := by decide +kernel
theorem dX6_turn_33 : decode cX6_turn 33 = .ok (.ireturn, 1) := by decide +kernel
theorem dX6_turn_34 : decode cX6_turn 34 = .ok (.iconst 0, 1) := by decide +kernel
theorem dX6_turn_35 : decode cX6_turn 35 = .ok (.istore_n 2, 1) := by decide +kernel
theorem dX6_turn_36 : decode cX6_turn 36 = .ok (.iload_n 2, 1) := by decide +kernel
theorem dX6_turn_37 : decode cX6_turn 37 = .ok (.aload_n 0, 1) := by decide +kernel
theorem dX6_turn_38 : decode cX6_turn 38 = .ok (.getfield 123, 3) := by decide +kernel
theorem dX6_turn_41 : decode cX6_turn 41 = .ok (.if_icmp .ge 38, 3) := by decide +kernel
theorem dX6_turn_44 : decode cX6_turn 44 = .ok (.aload_n 0, 1) := by decide +kernel
theorem dX6_turn_45 : decode cX6_turn 45 = .ok (.getfield 35, 3) := by decide +kernel
theorem dX6_turn_48 : decode cX6_turn 48 = .ok (.iload_n 2, 1) := by decide +kernel
theorem dX6_turn_49 : decode cX6_turn 49 = .ok (.iaload, 1) := by decide +kernel
theorem dX6_turn_50 : decode cX6_turn 50 = .ok (.ifCond .eq 23, 3) := by decide +kernel
theorem dX6_turn_53 : decode cX6_turn 53 = .ok (.aload_n 0, 1) := by decide +kernel
theorem dX6_turn_54 : decode cX6_turn 54 = .ok (.iload_n 1, 1) := by decide +kernel
theorem dX6_turn_55 : decode cX6_turn 55 = .ok (.iload_n 2, 1) := by decide +kernel
theorem dX6_turn_56 : decode cX6_turn 56 = .ok (.invokevirtual 137, 3) := by decide +kernel
theorem dX6_turn_59 : decode cX6_turn 59 = .ok (.ifCond .ne 12, 3) := by decide +kernel
theorem dX6_turn_62 : decode cX6_turn 62 = .ok (.aload_n 0, 1) := by decide +kernel
theorem dX6_turn_63 : decode cX6_turn 63 = .ok (.iload_n 2, 1) := by decide +kernel
theorem dX6_turn_64 : decode cX6_turn 64 = .ok (.iload_n 1, 1) := by decide +kernel
theorem dX6_turn_65 : decode cX6_turn 65 = .ok (.invokevirtual 137, 3) := by decide +kernel
theorem dX6_turn_68 : decode cX6_turn 68 = .ok (.ifCond .eq 5, 3) := by decide +kernel
theorem dX6_turn_71 : decode cX6_turn 71 = .ok (.iconst (-1), 1) := by decide +kernel
theorem dX6_turn_72 : decode cX6_turn 72 = .ok (.ireturn, 1) := by decide +kernel
theorem dX6_turn_73 : decode cX6_turn 73 = .ok (.iinc 2 1, 3) := by decide +kernel
theorem dX6_turn_76 : decode cX6_turn 76 = .ok (.goto (-40), 3) := by decide +kernel
theorem dX6_turn_79 : decode cX6_turn 79 = .ok (.aload_n 0, 1) := by decide +kernel
theorem dX6_turn_80 : decode cX6_turn 80 = .ok (.iload_n 1, 1) := by decide +kernel
theorem dX6_turn_81 : decode cX6_turn 81 = .ok (.iconst 0, 1) := by decide +kernel
theorem dX6_turn_82 : decode cX6_turn 82 = .ok (.invokevirtual 182, 3) := by decide +kernel
theorem dX6_turn_85 : decode cX6_turn 85 = .ok (.aload_n 0, 1) := by decide +kernel
theorem dX6_turn_86 : decode cX6_turn 86 = .ok (.getfield 29, 3) := by decide +kernel
theorem dX6_turn_89 : decode cX6_turn 89 = .ok (.iload_n 1, 1) := by decide +kernel
theorem dX6_turn_90 : decode cX6_turn 90 = .ok (.iaload, 1) := by decide +kernel
theorem dX6_turn_91 : decode cX6_turn 91 = .ok (.ireturn, 1) := by decide +kernel
set_option maxRecDepth 20000 in
theorem dX6_stolen_0 : decode cX6_stolen 0 = .ok (.aload_n 0, 1) := by decide +kernel
theorem dX6_stolen_1 : decode cX6_stolen 1 = .ok (.iconst 0, 1) := by decide +kernel
theorem dX6_stolen_2 : decode cX6_stolen 2 = .ok (.putfield 120, 3) := by decide +kernel
theorem dX6_stolen_5 : decode cX6_stolen 5 = .ok (.aload_n 0, 1) := by decide +kernel
theorem dX6_stolen_6 : decode cX6_stolen 6 = .ok (.iload_n 1, 1) := by decide +kernel
theorem dX6_stolen_7 : decode cX6_stolen 7 = .ok (.invokevirtual 133, 3) := by decide +kernel
theorem dX6_stolen_10 : decode cX6_stolen 10 = .ok (.ifCond .eq 13, 3) := by decide +kernel
theorem dX6_stolen_13 : decode cX6_stolen 13 = .ok (.aload_n 0, 1) := by decide +kernel
theorem dX6_stolen_14 : decode cX6_stolen 14 = .ok (.getfield 60, 3) := by decide +kernel
theorem dX6_stolen_17 : decode cX6_stolen 17 = .ok (.bipush 16, 2) := by decide +kernel
theorem dX6_stolen_19 : decode cX6_stolen 19 = .ok (.baload, 1) := by decide +kernel
theorem dX6_stolen_20 : decode cX6_stolen 20 = .ok (.ifCond .eq 5, 3) := by decide +kernel
theorem dX6_stolen_23 : decode cX6_stolen 23 = .ok (.iconst (-1), 1) := by decide +kernel
theorem dX6_stolen_24 : decode cX6_stolen 24 = .ok (.ireturn, 1) := by decide +kernel
theorem dX6_stolen_25 : decode cX6_stolen 25 = .ok (.aload_n 0, 1) := by decide +kernel
theorem dX6_stolen_26 : decode cX6_stolen 26 = .ok (.getfield 35, 3) := by decide +kernel
theorem dX6_stolen_29 : decode cX6_stolen 29 = .ok (.iload_n 1, 1) := by decide +kernel
theorem dX6_stolen_30 : decode cX6_stolen 30 = .ok (.iaload, 1) := by decide +kernel
theorem dX6_stolen_31 : decode cX6_stolen 31 = .ok (.ifCond .ne 16, 3) := by decide +kernel
theorem dX6_stolen_34 : decode cX6_stolen 34 = .ok (.aload_n 0, 1) := by decide +kernel
theorem dX6_stolen_35 : decode cX6_stolen 35 = .ok (.iload_n 1, 1) := by decide +kernel
theorem dX6_stolen_36 : decode cX6_stolen 36 = .ok (.iconst 1, 1) := by decide +kernel
theorem dX6_stolen_37 : decode cX6_stolen 37 = .ok (.invokevirtual 182, 3) := by decide +kernel
theorem dX6_stolen_40 : decode cX6_stolen 40 = .ok (.aload_n 0, 1) := by decide +kernel
theorem dX6_stolen_41 : decode cX6_stolen 41 = .ok (.getfield 29, 3) := by decide +kernel
theorem dX6_stolen_44 : decode cX6_stolen 44 = .ok (.iload_n 1, 1) := by decide +kernel
theorem dX6_stolen_45 : decode cX6_stolen 45 = .ok (.iaload, 1) := by decide +kernel
theorem dX6_stolen_46 : decode cX6_stolen 46 = .ok (.ireturn, 1) := by decide +kernel
theorem dX6_stolen_47 : decode cX6_stolen 47 = .ok (.aload_n 0, 1) := by decide +kernel
theorem dX6_stolen_48 : decode cX6_stolen 48 = .ok (.getfield 50, 3) := by decide +kernel
theorem dX6_stolen_51 : decode cX6_stolen 51 = .ok (.iload_n 1, 1) := by decide +kernel
theorem dX6_stolen_52 : decode cX6_stolen 52 = .ok (.iaload, 1) := by decide +kernel
theorem dX6_stolen_53 : decode cX6_stolen 53 = .ok (.sipush 500, 3) := by decide +kernel
theorem dX6_stolen_56 : decode cX6_stolen 56 = .ok (.if_icmp .ge 15, 3) := by decide +kernel
theorem dX6_stolen_59 : decode cX6_stolen 59 = .ok (.aload_n 0, 1) := by decide +kernel
theorem dX6_stolen_60 : decode cX6_stolen 60 = .ok (.getfield 111, 3) := by decide +kernel
theorem dX6_stolen_63 : decode cX6_stolen 63 = .ok (.aload_n 0, 1) := by decide +kernel
theorem dX6_stolen_64 : decode cX6_stolen 64 = .ok (.getfield 50, 3) := by decide +kernel
theorem dX6_stolen_67 : decode cX6_stolen 67 = .ok (.iload_n 1, 1) := by decide +kernel
theorem dX6_stolen_68 : decode cX6_stolen 68 = .ok (.iaload, 1) := by decide +kernel
theorem dX6_stolen_69 : decode cX6_stolen 69 = .ok (.iconst 1, 1) := by decide +kernel
theorem dX6_stolen_70 : decode cX6_stolen 70 = .ok (.bastore, 1) := by decide +kernel
theorem dX6_stolen_71 : decode cX6_stolen 71 = .ok (.aload_n 0, 1) := by decide +kernel
theorem dX6_stolen_72 : decode cX6_stolen 72 = .ok (.getfield 16, 3) := by decide +kernel
theorem dX6_stolen_75 : decode cX6_stolen 75 = .ok (.iload_n 1, 1) := by decide +kernel
theorem dX6_stolen_76 : decode cX6_stolen 76 = .ok (.iaload, 1) := by decide +kernel
theorem dX6_stolen_77 : decode cX6_stolen 77 = .ok (.ifCond .ne 48, 3) := by decide +kernel
theorem dX6_stolen_80 : decode cX6_stolen 80 = .ok (.aload_n 0, 1) := by decide +kernel
theorem dX6_stolen_81 : decode cX6_stolen 81 = .ok (.getfield 53, 3) := by decide +kernel
theorem dX6_stolen_84 : decode cX6_stolen 84 = .ok (.iload_n 1, 1) := by decide +kernel
theorem dX6_stolen_85 : decode cX6_stolen 85 = .ok (.baload, 1) := by decide +kernel
theorem dX6_stolen_86 : decode cX6_stolen 86 = .ok (.ifCond .ne 39, 3) := by decide +kernel
theorem dX6_stolen_89 : decode cX6_stolen 89 = .ok (.aload_n 0, 1) := by decide +kernel
theorem dX6_stolen_90 : decode cX6_stolen 90 = .ok (.getfield 35, 3) := by decide +kernel
theorem dX6_stolen_93 : decode cX6_stolen 93 = .ok (.iload_n 1, 1) := by decide +kernel
theorem dX6_stolen_94 : decode cX6_stolen 94 = .ok (.iaload, 1) := by decide +kernel
theorem dX6_stolen_95 : decode cX6_stolen 95 = .ok (.iconst 1, 1) := by decide +kernel
theorem dX6_stolen_96 : decode cX6_stolen 96 = .ok (.if_icmp .ne 13, 3) := by decide +kernel
theorem dX6_stolen_99 : decode cX6_stolen 99 = .ok (.aload_n 0, 1) := by decide +kernel
theorem dX6_stolen_100 : decode cX6_stolen 100 = .ok (.getfield 53, 3) := by decide +kernel
theorem dX6_stolen_103 : decode cX6_stolen 103 = .ok (.iload_n 1, 1) := by decide +kernel
theorem dX6_stolen_104 : decode cX6_stolen 104 = .ok (.iconst 1, 1) := by decide +kernel
theorem dX6_stolen_105 : decode cX6_stolen 105 = .ok (.bastore, 1) := by decide +kernel
theorem dX6_stolen_106 : decode cX6_stolen 106 = .ok (.goto 19, 3) := by decide +kernel
theorem dX6_stolen_109 : decode cX6_stolen 109 = .ok (.aload_n 0, 1) := by decide +kernel
theorem dX6_stolen_110 : decode cX6_stolen 110 = .ok (.getfield 35, 3) := by decide +kernel
theorem dX6_stolen_113 : decode cX6_stolen 113 = .ok (.iload_n 1, 1) := by decide +kernel
theorem dX6_stolen_114 : decode cX6_stolen 114 = .ok (.iaload, 1) := by decide +kernel
theorem dX6_stolen_115 : decode cX6_stolen 115 = .ok (.iconst 4, 1) := by decide +kernel
theorem dX6_stolen_116 : decode cX6_stolen 116 = .ok (.if_icmp .ge 9, 3) := by decide +kernel
theorem dX6_stolen_119 : decode cX6_stolen 119 = .ok (.aload_n 0, 1) := by decide +kernel
theorem dX6_stolen_120 : decode cX6_stolen 120 = .ok (.iload_n 1, 1) := by decide +kernel
theorem dX6_stolen_121 : decode cX6_stolen 121 = .ok (.iconst 4, 1) := by decide +kernel
theorem dX6_stolen_122 : decode cX6_stolen 122 = .ok (.invokevirtual 168, 3) := by decide +kernel
theorem dX6_stolen_125 : decode cX6_stolen 125 = .ok (.aload_n 0, 1) := by decide +kernel
theorem dX6_stolen_126 : decode cX6_stolen 126 = .ok (.getfield 29, 3) := by decide +kernel
theorem dX6_stolen_129 : decode cX6_stolen 129 = .ok (.iload_n 1, 1) := by decide +kernel
theorem dX6_stolen_130 : decode cX6_stolen 130 = .ok (.iaload, 1) := by decide +kernel
theorem dX6_stolen_131 : decode cX6_stolen 131 = .ok (.ireturn, 1) := by decide +kernel
theorem dX6_isGood_0 : decode cX6_isGood 0 = .ok (.aload_n 0, 1) := by decide +kernel
theorem dX6_isGood_1 : decode cX6_isGood 1 = .ok (.getfield 66, 3) := by decide +kernel
theorem dX6_isGood_4 : decode cX6_isGood 4 = .ok (.bipush 6, 2) := by decide +kernel
theorem dX6_isGood_6 : decode cX6_isGood 6 = .ok (.iload_n 1, 1) := by decide +kernel
theorem dX6_isGood_7 : decode cX6_isGood 7 = .ok (.imul, 1) := by decide +kernel
theorem dX6_isGood_8 : decode cX6_isGood 8 = .ok (.iload_n 2, 1) := by decide +kernel
theorem dX6_isGood_9 : decode cX6_isGood 9 = .ok (.iadd, 1) := by decide +kernel
theorem dX6_isGood_10 : decode cX6_isGood 10 = .ok (.iaload, 1) := by decide +kernel
theorem dX6_isGood_11 : decode cX6_isGood 11 = .ok (.iload_n 3, 1) := by decide +kernel
theorem dX6_isGood_12 : decode cX6_isGood 12 = .ok (.if_icmp .eq 18, 3) := by decide +kernel
theorem dX6_isGood_15 : decode cX6_isGood 15 = .ok (.aload_n 0, 1) := by decide +kernel
theorem dX6_isGood_16 : decode cX6_isGood 16 = .ok (.getfield 69, 3) := by decide +kernel
theorem dX6_isGood_19 : decode cX6_isGood 19 = .ok (.bipush 6, 2) := by decide +kernel
theorem dX6_isGood_21 : decode cX6_isGood 21 = .ok (.iload_n 1, 1) := by decide +kernel
theorem dX6_isGood_22 : decode cX6_isGood 22 = .ok (.imul, 1) := by decide +kernel
theorem dX6_isGood_23 : decode cX6_isGood 23 = .ok (.iload_n 2, 1) := by decide +kernel
theorem dX6_isGood_24 : decode cX6_isGood 24 = .ok (.iadd, 1) := by decide +kernel
theorem dX6_isGood_25 : decode cX6_isGood 25 = .ok (.iaload, 1) := by decide +kernel
theorem dX6_isGood_26 : decode cX6_isGood 26 = .ok (.iload_n 3, 1) := by decide +kernel
theorem dX6_isGood_27 : decode cX6_isGood 27 = .ok (.if_icmp .ne 7, 3) := by decide +kernel
theorem dX6_isGood_30 : decode cX6_isGood 30 = .ok (.iconst 1, 1) := by decide +kernel
theorem dX6_isGood_31 : decode cX6_isGood 31 = .ok (.goto 4, 3) := by decide +kernel
theorem dX6_isGood_34 : decode cX6_isGood 34 = .ok (.iconst 0, 1) := by decide +kernel
theorem dX6_isGood_35 : decode cX6_isGood 35 = .ok (.ireturn, 1) := by decide +kernel
set_option maxRecDepth 20000 in
theorem dX6_asks_0 : decode cX6_asks 0 = .ok (.iload 5, 2) := by decide +kernel
theorem dX6_asks_2 : decode cX6_asks 2 = .ok (.ifCond .eq 30, 3) := by decide +kernel
theorem dX6_asks_5 : decode cX6_asks 5 = .ok (.aload_n 0, 1) := by decide +kernel
theorem dX6_asks_6 : decode cX6_asks 6 = .ok (.getfield 60, 3) := by decide +kernel
theorem dX6_asks_9 : decode cX6_asks 9 = .ok (.bipush 10, 2) := by decide +kernel
theorem dX6_asks_11 : decode cX6_asks 11 = .ok (.iload_n 3, 1) := by decide +kernel
theorem dX6_asks_12 : decode cX6_asks 12 = .ok (.iadd, 1) := by decide +kernel
theorem dX6_asks_13 : decode cX6_asks 13 = .ok (.baload, 1) := by decide +kernel
theorem dX6_asks_14 : decode cX6_asks 14 = .ok (.ifCond .ne 18, 3) := by decide +kernel
theorem dX6_asks_17 : decode cX6_asks 17 = .ok (.aload_n 0, 1) := by decide +kernel
theorem dX6_asks_18 : decode cX6_asks 18 = .ok (.iload_n 2, 1) := by decide +kernel
theorem dX6_asks_19 : decode cX6_asks 19 = .ok (.iload_n 3, 1) := by decide +kernel
theorem dX6_asks_20 : decode cX6_asks 20 = .ok (.iload 4, 2) := by decide +kernel
theorem dX6_asks_22 : decode cX6_asks 22 = .ok (.invokevirtual 186, 3) := by decide +kernel
theorem dX6_asks_25 : decode cX6_asks 25 = .ok (.ifCond .eq 7, 3) := by decide +kernel
theorem dX6_asks_28 : decode cX6_asks 28 = .ok (.iconst 1, 1) := by decide +kernel
theorem dX6_asks_29 : decode cX6_asks 29 = .ok (.goto 4, 3) := by decide +kernel
theorem dX6_asks_32 : decode cX6_asks 32 = .ok (.iconst 0, 1) := by decide +kernel
theorem dX6_asks_33 : decode cX6_asks 33 = .ok (.istore 6, 2) := by decide +kernel
theorem dX6_asks_35 : decode cX6_asks 35 = .ok (.iload 6, 2) := by decide +kernel
theorem dX6_asks_37 : decode cX6_asks 37 = .ok (.ifCond .ne 15, 3) := by decide +kernel
theorem dX6_asks_40 : decode cX6_asks 40 = .ok (.aload_n 0, 1) := by decide +kernel
theorem dX6_asks_41 : decode cX6_asks 41 = .ok (.dup, 1) := by decide +kernel
theorem dX6_asks_42 : decode cX6_asks 42 = .ok (.getfield 189, 3) := by decide +kernel
theorem dX6_asks_45 : decode cX6_asks 45 = .ok (.iconst 1, 1) := by decide +kernel
theorem dX6_asks_46 : decode cX6_asks 46 = .ok (.iadd, 1) := by decide +kernel
theorem dX6_asks_47 : decode cX6_asks 47 = .ok (.putfield 189, 3) := by decide +kernel
theorem dX6_asks_50 : decode cX6_asks 50 = .ok (.iconst 0, 1) := by decide +kernel
theorem dX6_asks_51 : decode cX6_asks 51 = .ok (.ireturn, 1) := by decide +kernel
theorem dX6_asks_52 : decode cX6_asks 52 = .ok (.aload_n 0, 1) := by decide +kernel
theorem dX6_asks_53 : decode cX6_asks 53 = .ok (.dup, 1) := by decide +kernel
theorem dX6_asks_54 : decode cX6_asks 54 = .ok (.getfield 192, 3) := by decide +kernel
theorem dX6_asks_57 : decode cX6_asks 57 = .ok (.iconst 1, 1) := by decide +kernel
theorem dX6_asks_58 : decode cX6_asks 58 = .ok (.iadd, 1) := by decide +kernel
theorem dX6_asks_59 : decode cX6_asks 59 = .ok (.putfield 192, 3) := by decide +kernel
theorem dX6_asks_62 : decode cX6_asks 62 = .ok (.aload_n 0, 1) := by decide +kernel
theorem dX6_asks_63 : decode cX6_asks 63 = .ok (.getfield 35, 3) := by decide +kernel
theorem dX6_asks_66 : decode cX6_asks 66 = .ok (.iload_n 2, 1) := by decide +kernel
theorem dX6_asks_67 : decode cX6_asks 67 = .ok (.iaload, 1) := by decide +kernel
theorem dX6_asks_68 : decode cX6_asks 68 = .ok (.ifCond .eq 36, 3) := by decide +kernel
theorem dX6_asks_71 : decode cX6_asks 71 = .ok (.iload 4, 2) := by decide +kernel
theorem dX6_asks_73 : decode cX6_asks 73 = .ok (.aload_n 0, 1) := by decide +kernel
theorem dX6_asks_74 : decode cX6_asks 74 = .ok (.getfield 29, 3) := by decide +kernel
theorem dX6_asks_77 : decode cX6_asks 77 = .ok (.iload_n 2, 1) := by decide +kernel
theorem dX6_asks_78 : decode cX6_asks 78 = .ok (.iaload, 1) := by decide +kernel
theorem dX6_asks_79 : decode cX6_asks 79 = .ok (.if_icmp .eq 25, 3) := by decide +kernel
theorem dX6_asks_82 : decode cX6_asks 82 = .ok (.aload_n 0, 1) := by decide +kernel
theorem dX6_asks_83 : decode cX6_asks 83 = .ok (.getfield 41, 3) := by decide +kernel
theorem dX6_asks_86 : decode cX6_asks 86 = .ok (.iload_n 2, 1) := by decide +kernel
theorem dX6_asks_87 : decode cX6_asks 87 = .ok (.dup2, 1) := by decide +kernel
theorem dX6_asks_88 : decode cX6_asks 88 = .ok (.iaload, 1) := by decide +kernel
theorem dX6_asks_89 : decode cX6_asks 89 = .ok (.iconst 1, 1) := by decide +kernel
theorem dX6_asks_90 : decode cX6_asks 90 = .ok (.iload_n 1, 1) := by decide +kernel
theorem dX6_asks_91 : decode cX6_asks 91 = .ok (.ishl, 1) := by decide +kernel
theorem dX6_asks_92 : decode cX6_asks 92 = .ok (.ior, 1) := by decide +kernel
theorem dX6_asks_93 : decode cX6_asks 93 = .ok (.iastore, 1) := by decide +kernel
theorem dX6_asks_94 : decode cX6_asks 94 = .ok (.aload_n 0, 1) := by decide +kernel
theorem dX6_asks_95 : decode cX6_asks 95 = .ok (.getfield 44, 3) := by decide +kernel
