theorem dX0_init_0 : decode cX0_init 0 = .ok (.aload_n 0, 1) := by decide +kernel
theorem dX0_init_1 : decode cX0_init 1 = .ok (.invokespecial 3, 3) := by decide +kernel
theorem dX0_init_4 : decode cX0_init 4 = .ok (.aload_n 0, 1) := by decide +kernel
theorem dX0_init_5 : decode cX0_init 5 = .ok (.new 9, 3) := by decide +kernel
theorem dX0_init_8 : decode cX0_init 8 = .ok (.dup, 1) := by decide +kernel
theorem dX0_init_9 : decode cX0_init 9 = .ok (.invokespecial 11, 3) := by decide +kernel
theorem dX0_init_12 : decode cX0_init 12 = .ok (.putfield 12, 3) := by decide +kernel
theorem dX0_init_15 : decode cX0_init 15 = .ok (.aload_n 0, 1) := by decide +kernel
theorem dX0_init_16 : decode cX0_init 16 = .ok (.bipush 16, 2) := by decide +kernel
theorem dX0_init_18 : decode cX0_init 18 = .ok (.newarray .int, 2) := by decide +kernel
theorem dX0_init_20 : decode cX0_init 20 = .ok (.putfield 18, 3) := by decide +kernel
theorem dX0_init_23 : decode cX0_init 23 = .ok (.aload_n 0, 1) := by decide +kernel
theorem dX0_init_24 : decode cX0_init 24 = .ok (.iconst 0, 1) := by decide +kernel
theorem dX0_init_25 : decode cX0_init 25 = .ok (.putfield 22, 3) := by decide +kernel
theorem dX0_init_28 : decode cX0_init 28 = .ok (.aload_n 0, 1) := by decide +kernel
theorem dX0_init_29 : decode cX0_init 29 = .ok (.iconst (-1), 1) := by decide +kernel
theorem dX0_init_30 : decode cX0_init 30 = .ok (.putfield 26, 3) := by decide +kernel
theorem dX0_init_33 : decode cX0_init 33 = .ok (.aload_n 0, 1) := by decide +kernel
theorem dX0_init_34 : decode cX0_init 34 = .ok (.iconst 0, 1) := by decide +kernel
theorem dX0_init_35 : decode cX0_init 35 = .ok (.putfield 29, 3) := by decide +kernel
theorem dX0_init_38 : decode cX0_init 38 = .ok (.aload_n 0, 1) := by decide +kernel
theorem dX0_init_39 : decode cX0_init 39 = .ok (.iconst 0, 1) := by decide +kernel
theorem dX0_init_40 : decode cX0_init 40 = .ok (.putfield 32, 3) := by decide +kernel
theorem dX0_init_43 : decode cX0_init 43 = .ok (.aload_n 0, 1) := by decide +kernel
theorem dX0_init_44 : decode cX0_init 44 = .ok (.iconst 0, 1) := by decide +kernel
theorem dX0_init_45 : decode cX0_init 45 = .ok (.putfield 35, 3) := by decide +kernel
theorem dX0_init_48 : decode cX0_init 48 = .ok (.aload_n 0, 1) := by decide +kernel
theorem dX0_init_49 : decode cX0_init 49 = .ok (.iconst 0, 1) := by decide +kernel
theorem dX0_init_50 : decode cX0_init 50 = .ok (.putfield 38, 3) := by decide +kernel
theorem dX0_init_53 : decode cX0_init 53 = .ok (.aload_n 0, 1) := by decide +kernel
theorem dX0_init_54 : decode cX0_init 54 = .ok (.iconst 0, 1) := by decide +kernel
theorem dX0_init_55 : decode cX0_init 55 = .ok (.putfield 41, 3) := by decide +kernel
theorem dX0_init_58 : decode cX0_init 58 = .ok (.return_, 1) := by decide +kernel
theorem dX0_goesOn_0 : decode cX0_goesOn 0 = .ok (.aload_n 0, 1) := by decide +kernel
theorem dX0_goesOn_1 : decode cX0_goesOn 1 = .ok (.getfield 29, 3) := by decide +kernel
theorem dX0_goesOn_4 : decode cX0_goesOn 4 = .ok (.ifCond .eq 7, 3) := by decide +kernel
theorem dX0_goesOn_7 : decode cX0_goesOn 7 = .ok (.iconst 1, 1) := by decide +kernel
theorem dX0_goesOn_8 : decode cX0_goesOn 8 = .ok (.goto 4, 3) := by decide +kernel
theorem dX0_goesOn_11 : decode cX0_goesOn 11 = .ok (.iconst 0, 1) := by decide +kernel
theorem dX0_goesOn_12 : decode cX0_goesOn 12 = .ok (.ireturn, 1) := by decide +kernel
set_option maxRecDepth 20000 in
theorem dX0_letterCount_0 : decode cX0_letterCount 0 = .ok (.aload_n 0, 1) := by decide +kernel
theorem dX0_letterCount_1 : decode cX0_letterCount 1 = .ok (.getfield 22, 3) := by decide +kernel
theorem dX0_letterCount_4 : decode cX0_letterCount 4 = .ok (.invokestatic 45, 3) := by decide +kernel
theorem dX0_letterCount_7 : decode cX0_letterCount 7 = .ok (.ireturn, 1) := by decide +kernel
set_option maxRecDepth 20000 in
theorem dX0_start_0 : decode cX0_start 0 = .ok (.aload_n 0, 1) := by decide +kernel
theorem dX0_start_1 : decode cX0_start 1 = .ok (.iload_n 1, 1) := by decide +kernel
theorem dX0_start_2 : decode cX0_start 2 = .ok (.putfield 26, 3) := by decide +kernel
theorem dX0_start_5 : decode cX0_start 5 = .ok (.aload_n 0, 1) := by decide +kernel
theorem dX0_start_6 : decode cX0_start 6 = .ok (.iload_n 2, 1) := by decide +kernel
theorem dX0_start_7 : decode cX0_start 7 = .ok (.ifCond .ne 14, 3) := by decide +kernel
theorem dX0_start_10 : decode cX0_start 10 = .ok (.aload_n 0, 1) := by decide +kernel
theorem dX0_start_11 : decode cX0_start 11 = .ok (.getfield 12, 3) := by decide +kernel
theorem dX0_start_14 : decode cX0_start 14 = .ok (.getfield 51, 3) := by decide +kernel
theorem dX0_start_17 : decode cX0_start 17 = .ok (.iconst 1, 1) := by decide +kernel
theorem dX0_start_18 : decode cX0_start 18 = .ok (.if_icmp .ne 7, 3) := by decide +kernel
theorem dX0_start_21 : decode cX0_start 21 = .ok (.iconst 1, 1) := by decide +kernel
theorem dX0_start_22 : decode cX0_start 22 = .ok (.goto 4, 3) := by decide +kernel
theorem dX0_start_25 : decode cX0_start 25 = .ok (.iconst 0, 1) := by decide +kernel
theorem dX0_start_26 : decode cX0_start 26 = .ok (.putfield 41, 3) := by decide +kernel
theorem dX0_start_29 : decode cX0_start 29 = .ok (.aload_n 0, 1) := by decide +kernel
theorem dX0_start_30 : decode cX0_start 30 = .ok (.aload_n 0, 1) := by decide +kernel
theorem dX0_start_31 : decode cX0_start 31 = .ok (.getfield 12, 3) := by decide +kernel
theorem dX0_start_34 : decode cX0_start 34 = .ok (.getfield 51, 3) := by decide +kernel
theorem dX0_start_37 : decode cX0_start 37 = .ok (.iconst 1, 1) := by decide +kernel
theorem dX0_start_38 : decode cX0_start 38 = .ok (.if_icmp .ne 7, 3) := by decide +kernel
theorem dX0_start_41 : decode cX0_start 41 = .ok (.iconst 5, 1) := by decide +kernel
theorem dX0_start_42 : decode cX0_start 42 = .ok (.goto 4, 3) := by decide +kernel
theorem dX0_start_45 : decode cX0_start 45 = .ok (.iconst 1, 1) := by decide +kernel
theorem dX0_start_46 : decode cX0_start 46 = .ok (.iload_n 3, 1) := by decide +kernel
theorem dX0_start_47 : decode cX0_start 47 = .ok (.aload 4, 2) := by decide +kernel
theorem dX0_start_49 : decode cX0_start 49 = .ok (.invokevirtual 54, 3) := by decide +kernel
theorem dX0_start_52 : decode cX0_start 52 = .ok (.return_, 1) := by decide +kernel
set_option maxRecDepth 20000 in
theorem dX0_hurry_0 : decode cX0_hurry 0 = .ok (.aload_n 0, 1) := by decide +kernel
theorem dX0_hurry_1 : decode cX0_hurry 1 = .ok (.getfield 12, 3) := by decide +kernel
theorem dX0_hurry_4 : decode cX0_hurry 4 = .ok (.getfield 51, 3) := by decide +kernel
theorem dX0_hurry_7 : decode cX0_hurry 7 = .ok (.iconst 1, 1) := by decide +kernel
theorem dX0_hurry_8 : decode cX0_hurry 8 = .ok (.if_icmp .ne 4, 3) := by decide +kernel
theorem dX0_hurry_11 : decode cX0_hurry 11 = .ok (.return_, 1) := by decide +kernel
theorem dX0_hurry_12 : decode cX0_hurry 12 = .ok (.aload_n 0, 1) := by decide +kernel
theorem dX0_hurry_13 : decode cX0_hurry 13 = .ok (.getfield 29, 3) := by decide +kernel
theorem dX0_hurry_16 : decode cX0_hurry 16 = .ok (.iconst 1, 1) := by decide +kernel
theorem dX0_hurry_17 : decode cX0_hurry 17 = .ok (.if_icmp .ne 11, 3) := by decide +kernel
theorem dX0_hurry_20 : decode cX0_hurry 20 = .ok (.aload_n 0, 1) := by decide +kernel
theorem dX0_hurry_21 : decode cX0_hurry 21 = .ok (.iconst 1, 1) := by decide +kernel
theorem dX0_hurry_22 : decode cX0_hurry 22 = .ok (.putfield 41, 3) := by decide +kernel
theorem dX0_hurry_25 : decode cX0_hurry 25 = .ok (.goto 31, 3) := by decide +kernel
theorem dX0_hurry_28 : decode cX0_hurry 28 = .ok (.aload_n 0, 1) := by decide +kernel
theorem dX0_hurry_29 : decode cX0_hurry 29 = .ok (.getfield 29, 3) := by decide +kernel
theorem dX0_hurry_32 : decode cX0_hurry 32 = .ok (.iconst 2, 1) := by decide +kernel
theorem dX0_hurry_33 : decode cX0_hurry 33 = .ok (.if_icmp .eq 11, 3) := by decide +kernel
theorem dX0_hurry_36 : decode cX0_hurry 36 = .ok (.aload_n 0, 1) := by decide +kernel
theorem dX0_hurry_37 : decode cX0_hurry 37 = .ok (.getfield 29, 3) := by decide +kernel
theorem dX0_hurry_40 : decode cX0_hurry 40 = .ok (.iconst 3, 1) := by decide +kernel
theorem dX0_hurry_41 : decode cX0_hurry 41 = .ok (.if_icmp .ne 15, 3) := by decide +kernel
theorem dX0_hurry_44 : decode cX0_hurry 44 = .ok (.aload_n 0, 1) := by decide +kernel
theorem dX0_hurry_45 : decode cX0_hurry 45 = .ok (.iconst 0, 1) := by decide +kernel
theorem dX0_hurry_46 : decode cX0_hurry 46 = .ok (.putfield 41, 3) := by decide +kernel
theorem dX0_hurry_49 : decode cX0_hurry 49 = .ok (.aload_n 0, 1) := by decide +kernel
theorem dX0_hurry_50 : decode cX0_hurry 50 = .ok (.iconst 4, 1) := by decide +kernel
theorem dX0_hurry_51 : decode cX0_hurry 51 = .ok (.iload_n 1, 1) := by decide +kernel
theorem dX0_hurry_52 : decode cX0_hurry 52 = .ok (.aload_n 2, 1) := by decide +kernel
theorem dX0_hurry_53 : decode cX0_hurry 53 = .ok (.invokevirtual 54, 3) := by decide +kernel
theorem dX0_hurry_56 : decode cX0_hurry 56 = .ok (.return_, 1) := by decide +kernel
set_option maxRecDepth 20000 in
theorem dX0_beginStep_0 : decode cX0_beginStep 0 = .ok (.aload_n 0, 1) := by decide +kernel
theorem dX0_beginStep_1 : decode cX0_beginStep 1 = .ok (.iload_n 1, 1) := by decide +kernel
theorem dX0_beginStep_2 : decode cX0_beginStep 2 = .ok (.putfield 29, 3) := by decide +kernel
theorem dX0_beginStep_5 : decode cX0_beginStep 5 = .ok (.aload_n 0, 1) := by decide +kernel
theorem dX0_beginStep_6 : decode cX0_beginStep 6 = .ok (.iload_n 2, 1) := by decide +kernel
theorem dX0_beginStep_7 : decode cX0_beginStep 7 = .ok (.putfield 32, 3) := by decide +kernel
theorem dX0_beginStep_10 : decode cX0_beginStep 10 = .ok (.aload_n 0, 1) := by decide +kernel
theorem dX0_beginStep_11 : decode cX0_beginStep 11 = .ok (.iload_n 2, 1) := by decide +kernel
theorem dX0_beginStep_12 : decode cX0_beginStep 12 = .ok (.putfield 38, 3) := by decide +kernel
theorem dX0_beginStep_15 : decode cX0_beginStep 15 = .ok (.aload_n 0, 1) := by decide +kernel
theorem dX0_beginStep_16 : decode cX0_beginStep 16 = .ok (.iconst 0, 1) := by decide +kernel
theorem dX0_beginStep_17 : decode cX0_beginStep 17 = .ok (.putfield 35, 3) := by decide +kernel
theorem dX0_beginStep_20 : decode cX0_beginStep 20 = .ok (.iload_n 1, 1) := by decide +kernel
theorem dX0_beginStep_21 : decode cX0_beginStep 21 = .ok (.iconst 2, 1) := by decide +kernel
theorem dX0_beginStep_22 : decode cX0_beginStep 22 = .ok (.if_icmp .ne 19, 3) := by decide +kernel
theorem dX0_beginStep_25 : decode cX0_beginStep 25 = .ok (.aload_n 0, 1) := by decide +kernel
theorem dX0_beginStep_26 : decode cX0_beginStep 26 = .ok (.aload_n 0, 1) := by decide +kernel
theorem dX0_beginStep_27 : decode cX0_beginStep 27 = .ok (.getfield 12, 3) := by decide +kernel
theorem dX0_beginStep_30 : decode cX0_beginStep 30 = .ok (.getfield 58, 3) := by decide +kernel
theorem dX0_beginStep_33 : decode cX0_beginStep 33 = .ok (.iload_n 2, 1) := by decide +kernel
theorem dX0_beginStep_34 : decode cX0_beginStep 34 = .ok (.aload_n 3, 1) := by decide +kernel
theorem dX0_beginStep_35 : decode cX0_beginStep 35 = .ok (.invokevirtual 61, 3) := by decide +kernel
theorem dX0_beginStep_38 : decode cX0_beginStep 38 = .ok (.goto 28, 3) := by decide +kernel
theorem dX0_beginStep_41 : decode cX0_beginStep 41 = .ok (.iload_n 1, 1) := by decide +kernel
theorem dX0_beginStep_42 : decode cX0_beginStep 42 = .ok (.iconst 3, 1) := by decide +kernel
theorem dX0_beginStep_43 : decode cX0_beginStep 43 = .ok (.if_icmp .eq 23, 3) := by decide +kernel
theorem dX0_beginStep_46 : decode cX0_beginStep 46 = .ok (.iload_n 1, 1) := by decide +kernel
theorem dX0_beginStep_47 : decode cX0_beginStep 47 = .ok (.ifCond .eq 19, 3) := by decide +kernel
theorem dX0_beginStep_50 : decode cX0_beginStep 50 = .ok (.aload_n 0, 1) := by decide +kernel
theorem dX0_beginStep_51 : decode cX0_beginStep 51 = .ok (.aload_n 0, 1) := by decide +kernel
theorem dX0_beginStep_52 : decode cX0_beginStep 52 = .ok (.getfield 12, 3) := by decide +kernel
theorem dX0_beginStep_55 : decode cX0_beginStep 55 = .ok (.getfield 64, 3) := by decide +kernel
theorem dX0_beginStep_58 : decode cX0_beginStep 58 = .ok (.bipush 10, 2) := by decide +kernel
theorem dX0_beginStep_60 : decode cX0_beginStep 60 = .ok (.ishl, 1) := by decide +kernel
theorem dX0_beginStep_61 : decode cX0_beginStep 61 = .ok (.iload_n 2, 1) := by decide +kernel
theorem dX0_beginStep_62 : decode cX0_beginStep 62 = .ok (.aload_n 3, 1) := by decide +kernel
theorem dX0_beginStep_63 : decode cX0_beginStep 63 = .ok (.invokevirtual 61, 3) := by decide +kernel
theorem dX0_beginStep_66 : decode cX0_beginStep 66 = .ok (.return_, 1) := by decide +kernel
set_option maxRecDepth 20000 in
theorem dX0_write_0 : decode cX0_write 0 = .ok (.iconst 0, 1) := by decide +kernel
theorem dX0_write_1 : decode cX0_write 1 = .ok (.istore 4, 2) := by decide +kernel
theorem dX0_write_3 : decode cX0_write 3 = .ok (.iload 4, 2) := by decide +kernel
theorem dX0_write_5 : decode cX0_write 5 = .ok (.bipush 16, 2) := by decide +kernel
theorem dX0_write_7 : decode cX0_write 7 = .ok (.if_icmp .ge 38, 3) := by decide +kernel
theorem dX0_write_10 : decode cX0_write 10 = .ok (.iload_n 1, 1) := by decide +kernel
theorem dX0_write_11 : decode cX0_write 11 = .ok (.iload 4, 2) := by decide +kernel
theorem dX0_write_13 : decode cX0_write 13 = .ok (.invokestatic 67, 3) := by decide +kernel
theorem dX0_write_16 : decode cX0_write 16 = .ok (.ifCond .eq 23, 3) := by decide +kernel
theorem dX0_write_19 : decode cX0_write 19 = .ok (.aload_n 0, 1) := by decide +kernel
theorem dX0_write_20 : decode cX0_write 20 = .ok (.getfield 18, 3) := by decide +kernel
theorem dX0_write_23 : decode cX0_write 23 = .ok (.iload 4, 2) := by decide +kernel
theorem dX0_write_25 : decode cX0_write 25 = .ok (.iload_n 2, 1) := by decide +kernel
theorem dX0_write_26 : decode cX0_write 26 = .ok (.iconst 1, 1) := by decide +kernel
theorem dX0_write_27 : decode cX0_write 27 = .ok (.aload_n 3, 1) := by decide +kernel
theorem dX0_write_28 : decode cX0_write 28 = .ok (.getfield 71, 3) := by decide +kernel
theorem dX0_write_31 : decode cX0_write 31 = .ok (.iload 4, 2) := by decide +kernel
theorem dX0_write_33 : decode cX0_write 33 = .ok (.iaload, 1) := by decide +kernel
theorem dX0_write_34 : decode cX0_write 34 = .ok (.invokestatic 76, 3) := by decide +kernel
theorem dX0_write_37 : decode cX0_write 37 = .ok (.iadd, 1) := by decide +kernel
theorem dX0_write_38 : decode cX0_write 38 = .ok (.iastore, 1) := by decide +kernel
theorem dX0_write_39 : decode cX0_write 39 = .ok (.iinc 4 1, 3) := by decide +kernel
theorem dX0_write_42 : decode cX0_write 42 = .ok (.goto (-39), 3) := by decide +kernel
theorem dX0_write_45 : decode cX0_write 45 = .ok (.aload_n 0, 1) := by decide +kernel
theorem dX0_write_46 : decode cX0_write 46 = .ok (.dup, 1) := by decide +kernel
theorem dX0_write_47 : decode cX0_write 47 = .ok (.getfield 22, 3) := by decide +kernel
theorem dX0_write_50 : decode cX0_write 50 = .ok (.iload_n 1, 1) := by decide +kernel
theorem dX0_write_51 : decode cX0_write 51 = .ok (.ior, 1) := by decide +kernel
theorem dX0_write_52 : decode cX0_write 52 = .ok (.putfield 22, 3) := by decide +kernel
theorem dX0_write_55 : decode cX0_write 55 = .ok (.return_, 1) := by decide +kernel
set_option maxRecDepth 20000 in
theorem dX0_takeLetters_0 : decode cX0_takeLetters 0 = .ok (.iconst 0, 1) := by decide +kernel
theorem dX0_takeLetters_1 : decode cX0_takeLetters 1 = .ok (.istore_n 3, 1) := by decide +kernel
theorem dX0_takeLetters_2 : decode cX0_takeLetters 2 = .ok (.iload_n 3, 1) := by decide +kernel
theorem dX0_takeLetters_3 : decode cX0_takeLetters 3 = .ok (.bipush 16, 2) := by decide +kernel
theorem dX0_takeLetters_5 : decode cX0_takeLetters 5 = .ok (.if_icmp .ge 64, 3) := by decide +kernel
theorem dX0_takeLetters_8 : decode cX0_takeLetters 8 = .ok (.aload_n 0, 1) := by decide +kernel
theorem dX0_takeLetters_9 : decode cX0_takeLetters 9 = .ok (.getfield 22, 3) := by decide +kernel
theorem dX0_takeLetters_12 : decode cX0_takeLetters 12 = .ok (.ifCond .eq 57, 3) := by decide +kernel
theorem dX0_takeLetters_15 : decode cX0_takeLetters 15 = .ok (.aload_n 0, 1) := by decide +kernel
theorem dX0_takeLetters_16 : decode cX0_takeLetters 16 = .ok (.getfield 22, 3) := by decide +kernel
theorem dX0_takeLetters_19 : decode cX0_takeLetters 19 = .ok (.iload_n 3, 1) := by decide +kernel
theorem dX0_takeLetters_20 : decode cX0_takeLetters 20 = .ok (.invokestatic 67, 3) := by decide +kernel
theorem dX0_takeLetters_23 : decode cX0_takeLetters 23 = .ok (.ifCond .eq 40, 3) := by decide +kernel
theorem dX0_takeLetters_26 : decode cX0_takeLetters 26 = .ok (.aload_n 0, 1) := by decide +kernel
theorem dX0_takeLetters_27 : decode cX0_takeLetters 27 = .ok (.getfield 18, 3) := by decide +kernel
theorem dX0_takeLetters_30 : decode cX0_takeLetters 30 = .ok (.iload_n 3, 1) := by decide +kernel
theorem dX0_takeLetters_31 : decode cX0_takeLetters 31 = .ok (.iaload, 1) := by decide +kernel
theorem dX0_takeLetters_32 : decode cX0_takeLetters 32 = .ok (.iload_n 1, 1) := by decide +kernel
theorem dX0_takeLetters_33 : decode cX0_takeLetters 33 = .ok (.if_icmp .gt 30, 3) := by decide +kernel
theorem dX0_takeLetters_36 : decode cX0_takeLetters 36 = .ok (.aload_n 2, 1) := by decide +kernel
theorem dX0_takeLetters_37 : decode cX0_takeLetters 37 = .ok (.iload_n 3, 1) := by decide +kernel
theorem dX0_takeLetters_38 : decode cX0_takeLetters 38 = .ok (.invokevirtual 82, 3) := by decide +kernel
theorem dX0_takeLetters_41 : decode cX0_takeLetters 41 = .ok (.ifCond .ne 22, 3) := by decide +kernel
theorem dX0_takeLetters_44 : decode cX0_takeLetters 44 = .ok (.aload_n 0, 1) := by decide +kernel
theorem dX0_takeLetters_45 : decode cX0_takeLetters 45 = .ok (.iload_n 3, 1) := by decide +kernel
theorem dX0_takeLetters_46 : decode cX0_takeLetters 46 = .ok (.invokevirtual 86, 3) := by decide +kernel
theorem dX0_takeLetters_49 : decode cX0_takeLetters 49 = .ok (.aload_n 0, 1) := by decide +kernel
theorem dX0_takeLetters_50 : decode cX0_takeLetters 50 = .ok (.dup, 1) := by decide +kernel
theorem dX0_takeLetters_51 : decode cX0_takeLetters 51 = .ok (.getfield 22, 3) := by decide +kernel
theorem dX0_takeLetters_54 : decode cX0_takeLetters 54 = .ok (.iconst 1, 1) := by decide +kernel
theorem dX0_takeLetters_55 : decode cX0_takeLetters 55 = .ok (.iload_n 3, 1) := by decide +kernel
theorem dX0_takeLetters_56 : decode cX0_takeLetters 56 = .ok (.ishl, 1) := by decide +kernel
theorem dX0_takeLetters_57 : decode cX0_takeLetters 57 = .ok (.iconst (-1), 1) := by decide +kernel
theorem dX0_takeLetters_58 : decode cX0_takeLetters 58 = .ok (.ixor, 1) := by decide +kernel
theorem dX0_takeLetters_59 : decode cX0_takeLetters 59 = .ok (.iand, 1) := by decide +kernel
theorem dX0_takeLetters_60 : decode cX0_takeLetters 60 = .ok (.putfield 22, 3) := by decide +kernel
theorem dX0_takeLetters_63 : decode cX0_takeLetters 63 = .ok (.iinc 3 1, 3) := by decide +kernel
theorem dX0_takeLetters_66 : decode cX0_takeLetters 66 = .ok (.goto (-64), 3) := by decide +kernel
theorem dX0_takeLetters_69 : decode cX0_takeLetters 69 = .ok (.return_, 1) := by decide +kernel
theorem dX0_act_0 : decode cX0_act 0 = .ok (.iload_n 1, 1) := by decide +kernel
theorem dX0_act_1 : decode cX0_act 1 = .ok (.bipush 10, 2) := by decide +kernel
theorem dX0_act_3 : decode cX0_act 3 = .ok (.if_icmp .ge 19, 3) := by decide +kernel
theorem dX0_act_6 : decode cX0_act 6 = .ok (.aload_n 0, 1) := by decide +kernel
theorem dX0_act_7 : decode cX0_act 7 = .ok (.getfield 12, 3) := by decide +kernel
theorem dX0_act_10 : decode cX0_act 10 = .ok (.dup, 1) := by decide +kernel
theorem dX0_act_11 : decode cX0_act 11 = .ok (.getfield 90, 3) := by decide +kernel
theorem dX0_act_14 : decode cX0_act 14 = .ok (.iconst 1, 1) := by decide +kernel
theorem dX0_act_15 : decode cX0_act 15 = .ok (.iload_n 1, 1) := by decide +kernel
theorem dX0_act_16 : decode cX0_act 16 = .ok (.ishl, 1) := by decide +kernel
theorem dX0_act_17 : decode cX0_act 17 = .ok (.ior, 1) := by decide +kernel
theorem dX0_act_18 : decode cX0_act 18 = .ok (.putfield 90, 3) := by decide +kernel
theorem dX0_act_21 : decode cX0_act 21 = .ok (.return_, 1) := by decide +kernel
theorem dX0_act_22 : decode cX0_act 22 = .ok (.iconst 1, 1) := by decide +kernel
theorem dX0_act_23 : decode cX0_act 23 = .ok (.iload_n 1, 1) := by decide +kernel
theorem dX0_act_24 : decode cX0_act 24 = .ok (.bipush 10, 2) := by decide +kernel
theorem dX0_act_26 : decode cX0_act 26 = .ok (.isub, 1) := by decide +kernel
theorem dX0_act_27 : decode cX0_act 27 = .ok (.ishl, 1) := by decide +kernel
theorem dX0_act_28 : decode cX0_act 28 = .ok (.istore_n 2, 1) := by decide +kernel
theorem dX0_act_29 : decode cX0_act 29 = .ok (.aload_n 0, 1) := by decide +kernel
theorem dX0_act_30 : decode cX0_act 30 = .ok (.getfield 12, 3) := by decide +kernel
theorem dX0_act_33 : decode cX0_act 33 = .ok (.dup, 1) := by decide +kernel
theorem dX0_act_34 : decode cX0_act 34 = .ok (.getfield 93, 3) := by decide +kernel
theorem dX0_act_37 : decode cX0_act 37 = .ok (.iload_n 2, 1) := by decide +kernel
theorem dX0_act_38 : decode cX0_act 38 = .ok (.ior, 1) := by decide +kernel
theorem dX0_act_39 : decode cX0_act 39 = .ok (.putfield 93, 3) := by decide +kernel
theorem dX0_act_42 : decode cX0_act 42 = .ok (.aload_n 0, 1) := by decide +kernel
theorem dX0_act_43 : decode cX0_act 43 = .ok (.getfield 29, 3) := by decide +kernel
theorem dX0_act_46 : decode cX0_act 46 = .ok (.iconst 1, 1) := by decide +kernel
theorem dX0_act_47 : decode cX0_act 47 = .ok (.if_icmp .eq 18, 3) := by decide +kernel
theorem dX0_act_50 : decode cX0_act 50 = .ok (.aload_n 0, 1) := by decide +kernel
theorem dX0_act_51 : decode cX0_act 51 = .ok (.getfield 12, 3) := by decide +kernel
theorem dX0_act_54 : decode cX0_act 54 = .ok (.dup, 1) := by decide +kernel
theorem dX0_act_55 : decode cX0_act 55 = .ok (.getfield 96, 3) := by decide +kernel
theorem dX0_act_58 : decode cX0_act 58 = .ok (.iload_n 2, 1) := by decide +kernel
theorem dX0_act_59 : decode cX0_act 59 = .ok (.iconst (-1), 1) := by decide +kernel
theorem dX0_act_60 : decode cX0_act 60 = .ok (.ixor, 1) := by decide +kernel
theorem dX0_act_61 : decode cX0_act 61 = .ok (.iand, 1) := by decide +kernel
theorem dX0_act_62 : decode cX0_act 62 = .ok (.putfield 96, 3) := by decide +kernel
theorem dX0_act_65 : decode cX0_act 65 = .ok (.return_, 1) := by decide +kernel
set_option maxRecDepth 20000 in
theorem dX0_isStepOver_0 : decode cX0_isStepOver 0 = .ok (.aload_n 0, 1) := by decide +kernel
theorem dX0_isStepOver_1 : decode cX0_isStepOver 1 = .ok (.getfield 29, 3) := by decide +kernel
theorem dX0_isStepOver_4 : decode cX0_isStepOver 4 = .ok (.iconst 3, 1) := by decide +kernel
theorem dX0_isStepOver_5 : decode cX0_isStepOver 5 = .ok (.if_icmp .ne 19, 3) := by decide +kernel
theorem dX0_isStepOver_8 : decode cX0_isStepOver 8 = .ok (.iload_n 1, 1) := by decide +kernel
theorem dX0_isStepOver_9 : decode cX0_isStepOver 9 = .ok (.aload_n 0, 1) := by decide +kernel
theorem dX0_isStepOver_10 : decode cX0_isStepOver 10 = .ok (.iload_n 2, 1) := by decide +kernel
theorem dX0_isStepOver_11 : decode cX0_isStepOver 11 = .ok (.iload_n 3, 1) := by decide +kernel
theorem dX0_isStepOver_12 : decode cX0_isStepOver 12 = .ok (.invokevirtual 99, 3) := by decide +kernel
theorem dX0_isStepOver_15 : decode cX0_isStepOver 15 = .ok (.if_icmp .lt 7, 3) := by decide +kernel
theorem dX0_isStepOver_18 : decode cX0_isStepOver 18 = .ok (.iconst 1, 1) := by decide +kernel
theorem dX0_isStepOver_19 : decode cX0_isStepOver 19 = .ok (.goto 4, 3) := by decide +kernel
theorem dX0_isStepOver_22 : decode cX0_isStepOver 22 = .ok (.iconst 0, 1) := by decide +kernel
theorem dX0_isStepOver_23 : decode cX0_isStepOver 23 = .ok (.ireturn, 1) := by decide +kernel
theorem dX0_isStepOver_24 : decode cX0_isStepOver 24 = .ok (.aload_n 0, 1) := by decide +kernel
theorem dX0_isStepOver_25 : decode cX0_isStepOver 25 = .ok (.invokevirtual 102, 3) := by decide +kernel
theorem dX0_isStepOver_28 : decode cX0_isStepOver 28 = .ok (.ifCond .eq 14, 3) := by decide +kernel
theorem dX0_isStepOver_31 : decode cX0_isStepOver 31 = .ok (.aload_n 0, 1) := by decide +kernel
theorem dX0_isStepOver_32 : decode cX0_isStepOver 32 = .ok (.getfield 22, 3) := by decide +kernel
theorem dX0_isStepOver_35 : decode cX0_isStepOver 35 = .ok (.ifCond .ne 7, 3) := by decide +kernel
theorem dX0_isStepOver_38 : decode cX0_isStepOver 38 = .ok (.iconst 1, 1) := by decide +kernel
theorem dX0_isStepOver_39 : decode cX0_isStepOver 39 = .ok (.goto 4, 3) := by decide +kernel
theorem dX0_isStepOver_42 : decode cX0_isStepOver 42 = .ok (.iconst 0, 1) := by decide +kernel
theorem dX0_isStepOver_43 : decode cX0_isStepOver 43 = .ok (.ireturn, 1) := by decide +kernel
theorem dX0_endOfWait_0 : decode cX0_endOfWait 0 = .ok (.aload_n 0, 1) := by decide +kernel
theorem dX0_endOfWait_1 : decode cX0_endOfWait 1 = .ok (.getfield 38, 3) := by decide +kernel
theorem dX0_endOfWait_4 : decode cX0_endOfWait 4 = .ok (.iload_n 1, 1) := by decide +kernel
theorem dX0_endOfWait_5 : decode cX0_endOfWait 5 = .ok (.iadd, 1) := by decide +kernel
theorem dX0_endOfWait_6 : decode cX0_endOfWait 6 = .ok (.aload_n 0, 1) := by decide +kernel
theorem dX0_endOfWait_7 : decode cX0_endOfWait 7 = .ok (.getfield 32, 3) := by decide +kernel
theorem dX0_endOfWait_10 : decode cX0_endOfWait 10 = .ok (.iload_n 2, 1) := by decide +kernel
theorem dX0_endOfWait_11 : decode cX0_endOfWait 11 = .ok (.iadd, 1) := by decide +kernel
theorem dX0_endOfWait_12 : decode cX0_endOfWait 12 = .ok (.invokestatic 106, 3) := by decide +kernel
theorem dX0_endOfWait_15 : decode cX0_endOfWait 15 = .ok (.ireturn, 1) := by decide +kernel
theorem dX0_followingStep_0 : decode cX0_followingStep 0 = .ok (.aload_n 0, 1) := by decide +kernel
theorem dX0_followingStep_1 : decode cX0_followingStep 1 = .ok (.getfield 29, 3) := by decide +kernel
theorem dX0_followingStep_4 : decode cX0_followingStep 4 = .ok (.tableswitch 79 1 5 #[36, 49, 62, 64, 77], 36) := by decide +kernel
theorem dX0_followingStep_40 : decode cX0_followingStep 40 = .ok (.aload_n 0, 1) := by decide +kernel
theorem dX0_followingStep_41 : decode cX0_followingStep 41 = .ok (.getfield 41, 3) := by decide +kernel
theorem dX0_followingStep_44 : decode cX0_followingStep 44 = .ok (.ifCond .eq 7, 3) := by decide +kernel
theorem dX0_followingStep_47 : decode cX0_followingStep 47 = .ok (.iconst 4, 1) := by decide +kernel
theorem dX0_followingStep_48 : decode cX0_followingStep 48 = .ok (.goto 4, 3) := by decide +kernel
theorem dX0_followingStep_51 : decode cX0_followingStep 51 = .ok (.iconst 2, 1) := by decide +kernel
theorem dX0_followingStep_52 : decode cX0_followingStep 52 = .ok (.ireturn, 1) := by decide +kernel
theorem dX0_followingStep_53 : decode cX0_followingStep 53 = .ok (.aload_n 0, 1) := by decide +kernel
theorem dX0_followingStep_54 : decode cX0_followingStep 54 = .ok (.getfield 41, 3) := by decide +kernel
theorem dX0_followingStep_57 : decode cX0_followingStep 57 = .ok (.ifCond .eq 7, 3) := by decide +kernel
theorem dX0_followingStep_60 : decode cX0_followingStep 60 = .ok (.iconst 0, 1) := by decide +kernel
theorem dX0_followingStep_61 : decode cX0_followingStep 61 = .ok (.goto 4, 3) := by decide +kernel
theorem dX0_followingStep_64 : decode cX0_followingStep 64 = .ok (.iconst 3, 1) := by decide +kernel
theorem dX0_followingStep_65 : decode cX0_followingStep 65 = .ok (.ireturn, 1) := by decide +kernel
theorem dX0_followingStep_66 : decode cX0_followingStep 66 = .ok (.iconst 4, 1) := by decide +kernel
theorem dX0_followingStep_67 : decode cX0_followingStep 67 = .ok (.ireturn, 1) := by decide +kernel
theorem dX0_followingStep_68 : decode cX0_followingStep 68 = .ok (.aload_n 0, 1) := by decide +kernel
theorem dX0_followingStep_69 : decode cX0_followingStep 69 = .ok (.getfield 41, 3) := by decide +kernel
theorem dX0_followingStep_72 : decode cX0_followingStep 72 = .ok (.ifCond .eq 7, 3) := by decide +kernel
theorem dX0_followingStep_75 : decode cX0_followingStep 75 = .ok (.iconst 2, 1) := by decide +kernel
theorem dX0_followingStep_76 : decode cX0_followingStep 76 = .ok (.goto 4, 3) := by decide +kernel
theorem dX0_followingStep_79 : decode cX0_followingStep 79 = .ok (.iconst 0, 1) := by decide +kernel
theorem dX0_followingStep_80 : decode cX0_followingStep 80 = .ok (.ireturn, 1) := by decide +kernel
theorem dX0_followingStep_81 : decode cX0_followingStep 81 = .ok (.iconst 2, 1) := by decide +kernel
theorem dX0_followingStep_82 : decode cX0_followingStep 82 = .ok (.ireturn, 1) := by decide +kernel
theorem dX0_followingStep_83 : decode cX0_followingStep 83 = .ok (.iconst 0, 1) := by decide +kernel
theorem dX0_followingStep_84 : decode cX0_followingStep 84 = .ok (.ireturn, 1) := by decide +kernel
set_option maxRecDepth 20000 in
theorem dX0_nextLetter_0 : decode cX0_nextLetter 0 = .ok (.iload_n 1, 1) := by decide +kernel
theorem dX0_nextLetter_1 : decode cX0_nextLetter 1 = .ok (.istore_n 3, 1) := by decide +kernel
theorem dX0_nextLetter_2 : decode cX0_nextLetter 2 = .ok (.iconst 0, 1) := by decide +kernel
theorem dX0_nextLetter_3 : decode cX0_nextLetter 3 = .ok (.istore 4, 2) := by decide +kernel
theorem dX0_nextLetter_5 : decode cX0_nextLetter 5 = .ok (.iload 4, 2) := by decide +kernel
theorem dX0_nextLetter_7 : decode cX0_nextLetter 7 = .ok (.bipush 16, 2) := by decide +kernel
theorem dX0_nextLetter_9 : decode cX0_nextLetter 9 = .ok (.if_icmp .ge 49, 3) := by decide +kernel
theorem dX0_nextLetter_12 : decode cX0_nextLetter 12 = .ok (.aload_n 0, 1) := by decide +kernel
theorem dX0_nextLetter_13 : decode cX0_nextLetter 13 = .ok (.getfield 22, 3) := by decide +kernel
theorem dX0_nextLetter_16 : decode cX0_nextLetter 16 = .ok (.ifCond .eq 42, 3) := by decide +kernel
theorem dX0_nextLetter_19 : decode cX0_nextLetter 19 = .ok (.aload_n 0, 1) := by decide +kernel
theorem dX0_nextLetter_20 : decode cX0_nextLetter 20 = .ok (.getfield 22, 3) := by decide +kernel
theorem dX0_nextLetter_23 : decode cX0_nextLetter 23 = .ok (.iload 4, 2) := by decide +kernel
theorem dX0_nextLetter_25 : decode cX0_nextLetter 25 = .ok (.invokestatic 67, 3) := by decide +kernel
theorem dX0_nextLetter_28 : decode cX0_nextLetter 28 = .ok (.ifCond .eq 24, 3) := by decide +kernel
theorem dX0_nextLetter_31 : decode cX0_nextLetter 31 = .ok (.aload_n 2, 1) := by decide +kernel
theorem dX0_nextLetter_32 : decode cX0_nextLetter 32 = .ok (.iload 4, 2) := by decide +kernel
theorem dX0_nextLetter_34 : decode cX0_nextLetter 34 = .ok (.invokevirtual 82, 3) := by decide +kernel
theorem dX0_nextLetter_37 : decode cX0_nextLetter 37 = .ok (.ifCond .ne 15, 3) := by decide +kernel
theorem dX0_nextLetter_40 : decode cX0_nextLetter 40 = .ok (.iload_n 3, 1) := by decide +kernel
theorem dX0_nextLetter_41 : decode cX0_nextLetter 41 = .ok (.aload_n 0, 1) := by decide +kernel
theorem dX0_nextLetter_42 : decode cX0_nextLetter 42 = .ok (.getfield 18, 3) := by decide +kernel
theorem dX0_nextLetter_45 : decode cX0_nextLetter 45 = .ok (.iload 4, 2) := by decide +kernel
theorem dX0_nextLetter_47 : decode cX0_nextLetter 47 = .ok (.iaload, 1) := by decide +kernel
theorem dX0_nextLetter_48 : decode cX0_nextLetter 48 = .ok (.invokestatic 106, 3) := by decide +kernel
theorem dX0_nextLetter_51 : decode cX0_nextLetter 51 = .ok (.istore_n 3, 1) := by decide +kernel
theorem dX0_nextLetter_52 : decode cX0_nextLetter 52 = .ok (.iinc 4 1, 3) := by decide +kernel
theorem dX0_nextLetter_55 : decode cX0_nextLetter 55 = .ok (.goto (-50), 3) := by decide +kernel
theorem dX0_nextLetter_58 : decode cX0_nextLetter 58 = .ok (.iload_n 3, 1) := by decide +kernel
theorem dX0_nextLetter_59 : decode cX0_nextLetter 59 = .ok (.ireturn, 1) := by decide +kernel
set_option maxRecDepth 20000 in
theorem dX0_nextStepEnd_0 : decode cX0_nextStepEnd 0 = .ok (.aload_n 0, 1) := by decide +kernel
theorem dX0_nextStepEnd_1 : decode cX0_nextStepEnd 1 = .ok (.getfield 29, 3) := by decide +kernel
theorem dX0_nextStepEnd_4 : decode cX0_nextStepEnd 4 = .ok (.iconst 3, 1) := by decide +kernel
theorem dX0_nextStepEnd_5 : decode cX0_nextStepEnd 5 = .ok (.if_icmp .ne 11, 3) := by decide +kernel
theorem dX0_nextStepEnd_8 : decode cX0_nextStepEnd 8 = .ok (.aload_n 0, 1) := by decide +kernel
theorem dX0_nextStepEnd_9 : decode cX0_nextStepEnd 9 = .ok (.iload_n 3, 1) := by decide +kernel
theorem dX0_nextStepEnd_10 : decode cX0_nextStepEnd 10 = .ok (.iload 4, 2) := by decide +kernel
theorem dX0_nextStepEnd_12 : decode cX0_nextStepEnd 12 = .ok (.invokevirtual 99, 3) := by decide +kernel
theorem dX0_nextStepEnd_15 : decode cX0_nextStepEnd 15 = .ok (.ireturn, 1) := by decide +kernel
theorem dX0_nextStepEnd_16 : decode cX0_nextStepEnd 16 = .ok (.aload_n 0, 1) := by decide +kernel
theorem dX0_nextStepEnd_17 : decode cX0_nextStepEnd 17 = .ok (.iload_n 2, 1) := by decide +kernel
theorem dX0_nextStepEnd_18 : decode cX0_nextStepEnd 18 = .ok (.iload_n 3, 1) := by decide +kernel
theorem dX0_nextStepEnd_19 : decode cX0_nextStepEnd 19 = .ok (.iload 4, 2) := by decide +kernel
theorem dX0_nextStepEnd_21 : decode cX0_nextStepEnd 21 = .ok (.invokevirtual 109, 3) := by decide +kernel
theorem dX0_nextStepEnd_24 : decode cX0_nextStepEnd 24 = .ok (.ifCond .eq 7, 3) := by decide +kernel
theorem dX0_nextStepEnd_27 : decode cX0_nextStepEnd 27 = .ok (.iload_n 2, 1) := by decide +kernel
theorem dX0_nextStepEnd_28 : decode cX0_nextStepEnd 28 = .ok (.goto 4, 3) := by decide +kernel
theorem dX0_nextStepEnd_31 : decode cX0_nextStepEnd 31 = .ok (.iload_n 1, 1) := by decide +kernel
theorem dX0_nextStepEnd_32 : decode cX0_nextStepEnd 32 = .ok (.ireturn, 1) := by decide +kernel
set_option maxRecDepth 20000 in
theorem dX0_notePass_0 : decode cX0_notePass 0 = .ok (.aload_n 0, 1) := by decide +kernel
theorem dX0_notePass_1 : decode cX0_notePass 1 = .ok (.invokevirtual 102, 3) := by decide +kernel
theorem dX0_notePass_4 : decode cX0_notePass 4 = .ok (.ifCond .eq 31, 3) := by decide +kernel
theorem dX0_notePass_7 : decode cX0_notePass 7 = .ok (.iload_n 2, 1) := by decide +kernel
theorem dX0_notePass_8 : decode cX0_notePass 8 = .ok (.aload_n 0, 1) := by decide +kernel
theorem dX0_notePass_9 : decode cX0_notePass 9 = .ok (.getfield 12, 3) := by decide +kernel
theorem dX0_notePass_12 : decode cX0_notePass 12 = .ok (.getfield 113, 3) := by decide +kernel
theorem dX0_notePass_15 : decode cX0_notePass 15 = .ok (.if_icmp .ge 20, 3) := by decide +kernel
theorem dX0_notePass_18 : decode cX0_notePass 18 = .ok (.aload_n 0, 1) := by decide +kernel
theorem dX0_notePass_19 : decode cX0_notePass 19 = .ok (.dup, 1) := by decide +kernel
theorem dX0_notePass_20 : decode cX0_notePass 20 = .ok (.getfield 35, 3) := by decide +kernel
theorem dX0_notePass_23 : decode cX0_notePass 23 = .ok (.iconst 1, 1) := by decide +kernel
theorem dX0_notePass_24 : decode cX0_notePass 24 = .ok (.iload_n 1, 1) := by decide +kernel
theorem dX0_notePass_25 : decode cX0_notePass 25 = .ok (.ishl, 1) := by decide +kernel
theorem dX0_notePass_26 : decode cX0_notePass 26 = .ok (.ior, 1) := by decide +kernel
theorem dX0_notePass_27 : decode cX0_notePass 27 = .ok (.putfield 35, 3) := by decide +kernel
theorem dX0_notePass_30 : decode cX0_notePass 30 = .ok (.aload_n 0, 1) := by decide +kernel
theorem dX0_notePass_31 : decode cX0_notePass 31 = .ok (.iload_n 3, 1) := by decide +kernel
theorem dX0_notePass_32 : decode cX0_notePass 32 = .ok (.putfield 38, 3) := by decide +kernel
theorem dX0_notePass_35 : decode cX0_notePass 35 = .ok (.return_, 1) := by decide +kernel
theorem dX1_init_0 : decode cX1_init 0 = .ok (.aload_n 0, 1) := by decide +kernel
theorem dX1_init_1 : decode cX1_init 1 = .ok (.invokespecial 3, 3) := by decide +kernel
theorem dX1_init_4 : decode cX1_init 4 = .ok (.aload_n 0, 1) := by decide +kernel
theorem dX1_init_5 : decode cX1_init 5 = .ok (.sipush 2500, 3) := by decide +kernel
theorem dX1_init_8 : decode cX1_init 8 = .ok (.newarray .int, 2) := by decide +kernel
theorem dX1_init_10 : decode cX1_init 10 = .ok (.putfield 11, 3) := by decide +kernel
theorem dX1_init_13 : decode cX1_init 13 = .ok (.aload_n 0, 1) := by decide +kernel
theorem dX1_init_14 : decode cX1_init 14 = .ok (.iconst 0, 1) := by decide +kernel
theorem dX1_init_15 : decode cX1_init 15 = .ok (.putfield 15, 3) := by decide +kernel
theorem dX1_init_18 : decode cX1_init 18 = .ok (.return_, 1) := by decide +kernel
theorem dX1_isKept_0 : decode cX1_isKept 0 = .ok (.iload_n 1, 1) := by decide +kernel
theorem dX1_isKept_1 : decode cX1_isKept 1 = .ok (.ifCond .lt 22, 3) := by decide +kernel
theorem dX1_isKept_4 : decode cX1_isKept 4 = .ok (.iload_n 1, 1) := by decide +kernel
theorem dX1_isKept_5 : decode cX1_isKept 5 = .ok (.aload_n 0, 1) := by decide +kernel
theorem dX1_isKept_6 : decode cX1_isKept 6 = .ok (.getfield 15, 3) := by decide +kernel
theorem dX1_isKept_9 : decode cX1_isKept 9 = .ok (.if_icmp .ge 14, 3) := by decide +kernel
theorem dX1_isKept_12 : decode cX1_isKept 12 = .ok (.iload_n 1, 1) := by decide +kernel
theorem dX1_isKept_13 : decode cX1_isKept 13 = .ok (.sipush 500, 3) := by decide +kernel
theorem dX1_isKept_16 : decode cX1_isKept 16 = .ok (.if_icmp .ge 7, 3) := by decide +kernel
theorem dX1_isKept_19 : decode cX1_isKept 19 = .ok (.iconst 1, 1) := by decide +kernel
theorem dX1_isKept_20 : decode cX1_isKept 20 = .ok (.goto 4, 3) := by decide +kernel
theorem dX1_isKept_23 : decode cX1_isKept 23 = .ok (.iconst 0, 1) := by decide +kernel
theorem dX1_isKept_24 : decode cX1_isKept 24 = .ok (.ireturn, 1) := by decide +kernel
set_option maxRecDepth 20000 in
theorem dX1_add_0 : decode cX1_add 0 = .ok (.aload_n 0, 1) := by decide +kernel
theorem dX1_add_1 : decode cX1_add 1 = .ok (.getfield 15, 3) := by decide +kernel
theorem dX1_add_4 : decode cX1_add 4 = .ok (.istore 5, 2) := by decide +kernel
theorem dX1_add_6 : decode cX1_add 6 = .ok (.aload_n 0, 1) := by decide +kernel
theorem dX1_add_7 : decode cX1_add 7 = .ok (.dup, 1) := by decide +kernel
theorem dX1_add_8 : decode cX1_add 8 = .ok (.getfield 15, 3) := by decide +kernel
theorem dX1_add_11 : decode cX1_add 11 = .ok (.iconst 1, 1) := by decide +kernel
theorem dX1_add_12 : decode cX1_add 12 = .ok (.iadd, 1) := by decide +kernel
theorem dX1_add_13 : decode cX1_add 13 = .ok (.putfield 15, 3) := by decide +kernel
theorem dX1_add_16 : decode cX1_add 16 = .ok (.aload_n 0, 1) := by decide +kernel
theorem dX1_add_17 : decode cX1_add 17 = .ok (.iload 5, 2) := by decide +kernel
theorem dX1_add_19 : decode cX1_add 19 = .ok (.invokevirtual 19, 3) := by decide +kernel
theorem dX1_add_22 : decode cX1_add 22 = .ok (.ifCond .eq 68, 3) := by decide +kernel
theorem dX1_add_25 : decode cX1_add 25 = .ok (.iload 5, 2) := by decide +kernel
theorem dX1_add_27 : decode cX1_add 27 = .ok (.iconst 5, 1) := by decide +kernel
theorem dX1_add_28 : decode cX1_add 28 = .ok (.imul, 1) := by decide +kernel
theorem dX1_add_29 : decode cX1_add 29 = .ok (.istore 6, 2) := by decide +kernel
theorem dX1_add_31 : decode cX1_add 31 = .ok (.aload_n 0, 1) := by decide +kernel
theorem dX1_add_32 : decode cX1_add 32 = .ok (.getfield 11, 3) := by decide +kernel
theorem dX1_add_35 : decode cX1_add 35 = .ok (.iload 6, 2) := by decide +kernel
theorem dX1_add_37 : decode cX1_add 37 = .ok (.iconst 0, 1) := by decide +kernel
theorem dX1_add_38 : decode cX1_add 38 = .ok (.iadd, 1) := by decide +kernel
theorem dX1_add_39 : decode cX1_add 39 = .ok (.iload_n 1, 1) := by decide +kernel
theorem dX1_add_40 : decode cX1_add 40 = .ok (.iastore, 1) := by decide +kernel
theorem dX1_add_41 : decode cX1_add 41 = .ok (.aload_n 0, 1) := by decide +kernel
theorem dX1_add_42 : decode cX1_add 42 = .ok (.getfield 11, 3) := by decide +kernel
theorem dX1_add_45 : decode cX1_add 45 = .ok (.iload 6, 2) := by decide +kernel
theorem dX1_add_47 : decode cX1_add 47 = .ok (.iconst 1, 1) := by decide +kernel
theorem dX1_add_48 : decode cX1_add 48 = .ok (.iadd, 1) := by decide +kernel
theorem dX1_add_49 : decode cX1_add 49 = .ok (.iload_n 2, 1) := by decide +kernel
theorem dX1_add_50 : decode cX1_add 50 = .ok (.iastore, 1) := by decide +kernel
theorem dX1_add_51 : decode cX1_add 51 = .ok (.aload_n 0, 1) := by decide +kernel
theorem dX1_add_52 : decode cX1_add 52 = .ok (.getfield 11, 3) := by decide +kernel
theorem dX1_add_55 : decode cX1_add 55 = .ok (.iload 6, 2) := by decide +kernel
theorem dX1_add_57 : decode cX1_add 57 = .ok (.iconst 2, 1) := by decide +kernel
theorem dX1_add_58 : decode cX1_add 58 = .ok (.iadd, 1) := by decide +kernel
theorem dX1_add_59 : decode cX1_add 59 = .ok (.iload_n 3, 1) := by decide +kernel
theorem dX1_add_60 : decode cX1_add 60 = .ok (.iastore, 1) := by decide +kernel
theorem dX1_add_61 : decode cX1_add 61 = .ok (.aload_n 0, 1) := by decide +kernel
theorem dX1_add_62 : decode cX1_add 62 = .ok (.getfield 11, 3) := by decide +kernel
theorem dX1_add_65 : decode cX1_add 65 = .ok (.iload 6, 2) := by decide +kernel
theorem dX1_add_67 : decode cX1_add 67 = .ok (.iconst 3, 1) := by decide +kernel
theorem dX1_add_68 : decode cX1_add 68 = .ok (.iadd, 1) := by decide +kernel
theorem dX1_add_69 : decode cX1_add 69 = .ok (.iconst (-1), 1) := by decide +kernel
theorem dX1_add_70 : decode cX1_add 70 = .ok (.iastore, 1) := by decide +kernel
theorem dX1_add_71 : decode cX1_add 71 = .ok (.aload_n 0, 1) := by decide +kernel
theorem dX1_add_72 : decode cX1_add 72 = .ok (.getfield 11, 3) := by decide +kernel
theorem dX1_add_75 : decode cX1_add 75 = .ok (.iload 6, 2) := by decide +kernel
theorem dX1_add_77 : decode cX1_add 77 = .ok (.iconst 4, 1) := by decide +kernel
theorem dX1_add_78 : decode cX1_add 78 = .ok (.iadd, 1) := by decide +kernel
theorem dX1_add_79 : decode cX1_add 79 = .ok (.iload 4, 2) := by decide +kernel
theorem dX1_add_81 : decode cX1_add 81 = .ok (.ifCond .eq 7, 3) := by decide +kernel
theorem dX1_add_84 : decode cX1_add 84 = .ok (.iconst 1, 1) := by decide +kernel
theorem dX1_add_85 : decode cX1_add 85 = .ok (.goto 4, 3) := by decide +kernel
theorem dX1_add_88 : decode cX1_add 88 = .ok (.iconst 0, 1) := by decide +kernel
theorem dX1_add_89 : decode cX1_add 89 = .ok (.iastore, 1) := by decide +kernel
theorem dX1_add_90 : decode cX1_add 90 = .ok (.iload 5, 2) := by decide +kernel
theorem dX1_add_92 : decode cX1_add 92 = .ok (.ireturn, 1) := by decide +kernel
set_option maxRecDepth 20000 in
theorem dX1_markOver_0 : decode cX1_markOver 0 = .ok (.aload_n 0, 1) := by decide +kernel
theorem dX1_markOver_1 : decode cX1_markOver 1 = .ok (.iload_n 1, 1) := by decide +kernel
theorem dX1_markOver_2 : decode cX1_markOver 2 = .ok (.invokevirtual 19, 3) := by decide +kernel
theorem dX1_markOver_5 : decode cX1_markOver 5 = .ok (.ifCond .eq 14, 3) := by decide +kernel
theorem dX1_markOver_8 : decode cX1_markOver 8 = .ok (.aload_n 0, 1) := by decide +kernel
theorem dX1_markOver_9 : decode cX1_markOver 9 = .ok (.getfield 11, 3) := by decide +kernel
theorem dX1_markOver_12 : decode cX1_markOver 12 = .ok (.iload_n 1, 1) := by decide +kernel
theorem dX1_markOver_13 : decode cX1_markOver 13 = .ok (.iconst 5, 1) := by decide +kernel
theorem dX1_markOver_14 : decode cX1_markOver 14 = .ok (.imul, 1) := by decide +kernel
theorem dX1_markOver_15 : decode cX1_markOver 15 = .ok (.iconst 3, 1) := by decide +kernel
theorem dX1_markOver_16 : decode cX1_markOver 16 = .ok (.iadd, 1) := by decide +kernel
theorem dX1_markOver_17 : decode cX1_markOver 17 = .ok (.iload_n 2, 1) := by decide +kernel
theorem dX1_markOver_18 : decode cX1_markOver 18 = .ok (.iastore, 1) := by decide +kernel
theorem dX1_markOver_19 : decode cX1_markOver 19 = .ok (.return_, 1) := by decide +kernel
set_option maxRecDepth 20000 in
theorem dX1_markStolen_0 : decode cX1_markStolen 0 = .ok (.aload_n 0, 1) := by decide +kernel
theorem dX1_markStolen_1 : decode cX1_markStolen 1 = .ok (.iload_n 1, 1) := by decide +kernel
theorem dX1_markStolen_2 : decode cX1_markStolen 2 = .ok (.invokevirtual 19, 3) := by decide +kernel
theorem dX1_markStolen_5 : decode cX1_markStolen 5 = .ok (.ifCond .eq 14, 3) := by decide +kernel
theorem dX1_markStolen_8 : decode cX1_markStolen 8 = .ok (.aload_n 0, 1) := by decide +kernel
theorem dX1_markStolen_9 : decode cX1_markStolen 9 = .ok (.getfield 11, 3) := by decide +kernel
theorem dX1_markStolen_12 : decode cX1_markStolen 12 = .ok (.iload_n 1, 1) := by decide +kernel
theorem dX1_markStolen_13 : decode cX1_markStolen 13 = .ok (.iconst 5, 1) := by decide +kernel
theorem dX1_markStolen_14 : decode cX1_markStolen 14 = .ok (.imul, 1) := by decide +kernel
theorem dX1_markStolen_15 : decode cX1_markStolen 15 = .ok (.iconst 4, 1) := by decide +kernel
theorem dX1_markStolen_16 : decode cX1_markStolen 16 = .ok (.iadd, 1) := by decide +kernel
theorem dX1_markStolen_17 : decode cX1_markStolen 17 = .ok (.iconst 1, 1) := by decide +kernel
theorem dX1_markStolen_18 : decode cX1_markStolen 18 = .ok (.iastore, 1) := by decide +kernel
theorem dX1_markStolen_19 : decode cX1_markStolen 19 = .ok (.return_, 1) := by decide +kernel
theorem dX2_init_0 : decode cX2_init 0 = .ok (.aload_n 0, 1) := by decide +kernel
theorem dX2_init_1 : decode cX2_init 1 = .ok (.invokespecial 3, 3) := by decide +kernel
theorem dX2_init_4 : decode cX2_init 4 = .ok (.aload_n 0, 1) := by decide +kernel
theorem dX2_init_5 : decode cX2_init 5 = .ok (.bipush 16, 2) := by decide +kernel
theorem dX2_init_7 : decode cX2_init 7 = .ok (.newarray .int, 2) := by decide +kernel
theorem dX2_init_9 : decode cX2_init 9 = .ok (.putfield 9, 3) := by decide +kernel
theorem dX2_init_12 : decode cX2_init 12 = .ok (.aload_n 0, 1) := by decide +kernel
theorem dX2_init_13 : decode cX2_init 13 = .ok (.iconst 0, 1) := by decide +kernel
theorem dX2_init_14 : decode cX2_init 14 = .ok (.putfield 15, 3) := by decide +kernel
theorem dX2_init_17 : decode cX2_init 17 = .ok (.iconst 0, 1) := by decide +kernel
theorem dX2_init_18 : decode cX2_init 18 = .ok (.istore_n 1, 1) := by decide +kernel
theorem dX2_init_19 : decode cX2_init 19 = .ok (.iload_n 1, 1) := by decide +kernel
theorem dX2_init_20 : decode cX2_init 20 = .ok (.bipush 16, 2) := by decide +kernel
theorem dX2_init_22 : decode cX2_init 22 = .ok (.if_icmp .ge 16, 3) := by decide +kernel
theorem dX2_init_25 : decode cX2_init 25 = .ok (.aload_n 0, 1) := by decide +kernel
theorem dX2_init_26 : decode cX2_init 26 = .ok (.getfield 9, 3) := by decide +kernel
theorem dX2_init_29 : decode cX2_init 29 = .ok (.iload_n 1, 1) := by decide +kernel
theorem dX2_init_30 : decode cX2_init 30 = .ok (.iconst 1, 1) := by decide +kernel
theorem dX2_init_31 : decode cX2_init 31 = .ok (.iastore, 1) := by decide +kernel
theorem dX2_init_32 : decode cX2_init 32 = .ok (.iinc 1 1, 3) := by decide +kernel
theorem dX2_init_35 : decode cX2_init 35 = .ok (.goto (-16), 3) := by decide +kernel
theorem dX2_init_38 : decode cX2_init 38 = .ok (.return_, 1) := by decide +kernel
theorem dX2_isDown_0 : decode cX2_isDown 0 = .ok (.iload_n 1, 1) := by decide +kernel
theorem dX2_isDown_1 : decode cX2_isDown 1 = .ok (.ifCond .lt 24, 3) := by decide +kernel
theorem dX2_isDown_4 : decode cX2_isDown 4 = .ok (.iload_n 1, 1) := by decide +kernel
theorem dX2_isDown_5 : decode cX2_isDown 5 = .ok (.bipush 16, 2) := by decide +kernel
theorem dX2_isDown_7 : decode cX2_isDown 7 = .ok (.if_icmp .gt 18, 3) := by decide +kernel
theorem dX2_isDown_10 : decode cX2_isDown 10 = .ok (.aload_n 0, 1) := by decide +kernel
theorem dX2_isDown_11 : decode cX2_isDown 11 = .ok (.getfield 15, 3) := by decide +kernel
theorem dX2_isDown_14 : decode cX2_isDown 14 = .ok (.iload_n 1, 1) := by decide +kernel
theorem dX2_isDown_15 : decode cX2_isDown 15 = .ok (.ishr, 1) := by decide +kernel
theorem dX2_isDown_16 : decode cX2_isDown 16 = .ok (.iconst 1, 1) := by decide +kernel
theorem dX2_isDown_17 : decode cX2_isDown 17 = .ok (.iand, 1) := by decide +kernel
theorem dX2_isDown_18 : decode cX2_isDown 18 = .ok (.ifCond .eq 7, 3) := by decide +kernel
theorem dX2_isDown_21 : decode cX2_isDown 21 = .ok (.iconst 1, 1) := by decide +kernel
theorem dX2_isDown_22 : decode cX2_isDown 22 = .ok (.goto 4, 3) := by decide +kernel
theorem dX2_isDown_25 : decode cX2_isDown 25 = .ok (.iconst 0, 1) := by decide +kernel
theorem dX2_isDown_26 : decode cX2_isDown 26 = .ok (.ireturn, 1) := by decide +kernel
theorem dX3_init_0 : decode cX3_init 0 = .ok (.aload_n 0, 1) := by decide +kernel
theorem dX3_init_1 : decode cX3_init 1 = .ok (.invokespecial 3, 3) := by decide +kernel
theorem dX3_init_4 : decode cX3_init 4 = .ok (.aload_n 0, 1) := by decide +kernel
theorem dX3_init_5 : decode cX3_init 5 = .ok (.iconst 0, 1) := by decide +kernel
theorem dX3_init_6 : decode cX3_init 6 = .ok (.putfield 9, 3) := by decide +kernel
theorem dX3_init_9 : decode cX3_init 9 = .ok (.aload_n 0, 1) := by decide +kernel
theorem dX3_init_10 : decode cX3_init 10 = .ok (.iconst 0, 1) := by decide +kernel
theorem dX3_init_11 : decode cX3_init 11 = .ok (.putfield 15, 3) := by decide +kernel
theorem dX3_init_14 : decode cX3_init 14 = .ok (.aload_n 0, 1) := by decide +kernel
theorem dX3_init_15 : decode cX3_init 15 = .ok (.iconst 0, 1) := by decide +kernel
theorem dX3_init_16 : decode cX3_init 16 = .ok (.putfield 18, 3) := by decide +kernel
theorem dX3_init_19 : decode cX3_init 19 = .ok (.aload_n 0, 1) := by decide +kernel
theorem dX3_init_20 : decode cX3_init 20 = .ok (.iconst 0, 1) := by decide +kernel
theorem dX3_init_21 : decode cX3_init 21 = .ok (.putfield 21, 3) := by decide +kernel
theorem dX3_init_24 : decode cX3_init 24 = .ok (.aload_n 0, 1) := by decide +kernel
theorem dX3_init_25 : decode cX3_init 25 = .ok (.iconst 0, 1) := by decide +kernel
theorem dX3_init_26 : decode cX3_init 26 = .ok (.putfield 24, 3) := by decide +kernel
theorem dX3_init_29 : decode cX3_init 29 = .ok (.aload_n 0, 1) := by decide +kernel
theorem dX3_init_30 : decode cX3_init 30 = .ok (.iconst 0, 1) := by decide +kernel
theorem dX3_init_31 : decode cX3_init 31 = .ok (.putfield 27, 3) := by decide +kernel
theorem dX3_init_34 : decode cX3_init 34 = .ok (.aload_n 0, 1) := by decide +kernel
theorem dX3_init_35 : decode cX3_init 35 = .ok (.iconst 0, 1) := by decide +kernel
theorem dX3_init_36 : decode cX3_init 36 = .ok (.putfield 30, 3) := by decide +kernel
theorem dX3_init_39 : decode cX3_init 39 = .ok (.aload_n 0, 1) := by decide +kernel
theorem dX3_init_40 : decode cX3_init 40 = .ok (.iconst 0, 1) := by decide +kernel
theorem dX3_init_41 : decode cX3_init 41 = .ok (.putfield 33, 3) := by decide +kernel
theorem dX3_init_44 : decode cX3_init 44 = .ok (.aload_n 0, 1) := by decide +kernel
theorem dX3_init_45 : decode cX3_init 45 = .ok (.iconst 0, 1) := by decide +kernel
theorem dX3_init_46 : decode cX3_init 46 = .ok (.putfield 36, 3) := by decide +kernel
theorem dX3_init_49 : decode cX3_init 49 = .ok (.aload_n 0, 1) := by decide +kernel
theorem dX3_init_50 : decode cX3_init 50 = .ok (.iconst 0, 1) := by decide +kernel
theorem dX3_init_51 : decode cX3_init 51 = .ok (.putfield 39, 3) := by decide +kernel
theorem dX3_init_54 : decode cX3_init 54 = .ok (.return_, 1) := by decide +kernel
theorem dX3_open_0 : decode cX3_open 0 = .ok (.aload_n 0, 1) := by decide +kernel
theorem dX3_open_1 : decode cX3_open 1 = .ok (.iload_n 1, 1) := by decide +kernel
theorem dX3_open_2 : decode cX3_open 2 = .ok (.putfield 9, 3) := by decide +kernel
theorem dX3_open_5 : decode cX3_open 5 = .ok (.aload_n 0, 1) := by decide +kernel
theorem dX3_open_6 : decode cX3_open 6 = .ok (.iload_n 2, 1) := by decide +kernel
theorem dX3_open_7 : decode cX3_open 7 = .ok (.putfield 15, 3) := by decide +kernel
theorem dX3_open_10 : decode cX3_open 10 = .ok (.aload_n 0, 1) := by decide +kernel
theorem dX3_open_11 : decode cX3_open 11 = .ok (.iload_n 3, 1) := by decide +kernel
theorem dX3_open_12 : decode cX3_open 12 = .ok (.putfield 18, 3) := by decide +kernel
theorem dX3_open_15 : decode cX3_open 15 = .ok (.aload_n 0, 1) := by decide +kernel
theorem dX3_open_16 : decode cX3_open 16 = .ok (.iload 4, 2) := by decide +kernel
theorem dX3_open_18 : decode cX3_open 18 = .ok (.putfield 21, 3) := by decide +kernel
theorem dX3_open_21 : decode cX3_open 21 = .ok (.aload_n 0, 1) := by decide +kernel
theorem dX3_open_22 : decode cX3_open 22 = .ok (.iload 5, 2) := by decide +kernel
theorem dX3_open_24 : decode cX3_open 24 = .ok (.putfield 27, 3) := by decide +kernel
theorem dX3_open_27 : decode cX3_open 27 = .ok (.aload_n 0, 1) := by decide +kernel
theorem dX3_open_28 : decode cX3_open 28 = .ok (.iload_n 2, 1) := by decide +kernel
theorem dX3_open_29 : decode cX3_open 29 = .ok (.putfield 33, 3) := by decide +kernel
theorem dX3_open_32 : decode cX3_open 32 = .ok (.aload_n 0, 1) := by decide +kernel
theorem dX3_open_33 : decode cX3_open 33 = .ok (.iload_n 3, 1) := by decide +kernel
theorem dX3_open_34 : decode cX3_open 34 = .ok (.putfield 36, 3) := by decide +kernel
theorem dX3_open_37 : decode cX3_open 37 = .ok (.return_, 1) := by decide +kernel
theorem dX3_makeVersion_0 : decode cX3_makeVersion 0 = .ok (.aload_n 0, 1) := by decide +kernel
theorem dX3_makeVersion_1 : decode cX3_makeVersion 1 = .ok (.dup, 1) := by decide +kernel
theorem dX3_makeVersion_2 : decode cX3_makeVersion 2 = .ok (.getfield 24, 3) := by decide +kernel
theorem dX3_makeVersion_5 : decode cX3_makeVersion 5 = .ok (.iconst 1, 1) := by decide +kernel
theorem dX3_makeVersion_6 : decode cX3_makeVersion 6 = .ok (.iadd, 1) := by decide +kernel
theorem dX3_makeVersion_7 : decode cX3_makeVersion 7 = .ok (.putfield 24, 3) := by decide +kernel
theorem dX3_makeVersion_10 : decode cX3_makeVersion 10 = .ok (.aload_n 0, 1) := by decide +kernel
theorem dX3_makeVersion_11 : decode cX3_makeVersion 11 = .ok (.aload_n 0, 1) := by decide +kernel
theorem dX3_makeVersion_12 : decode cX3_makeVersion 12 = .ok (.getfield 27, 3) := by decide +kernel
theorem dX3_makeVersion_15 : decode cX3_makeVersion 15 = .ok (.putfield 30, 3) := by decide +kernel
theorem dX3_makeVersion_18 : decode cX3_makeVersion 18 = .ok (.aload_n 0, 1) := by decide +kernel
theorem dX3_makeVersion_19 : decode cX3_makeVersion 19 = .ok (.iload_n 1, 1) := by decide +kernel
theorem dX3_makeVersion_20 : decode cX3_makeVersion 20 = .ok (.putfield 27, 3) := by decide +kernel
theorem dX3_makeVersion_23 : decode cX3_makeVersion 23 = .ok (.aload_n 0, 1) := by decide +kernel
theorem dX3_makeVersion_24 : decode cX3_makeVersion 24 = .ok (.iconst 0, 1) := by decide +kernel
theorem dX3_makeVersion_25 : decode cX3_makeVersion 25 = .ok (.putfield 33, 3) := by decide +kernel
theorem dX3_makeVersion_28 : decode cX3_makeVersion 28 = .ok (.aload_n 0, 1) := by decide +kernel
theorem dX3_makeVersion_29 : decode cX3_makeVersion 29 = .ok (.aload_n 0, 1) := by decide +kernel
theorem dX3_makeVersion_30 : decode cX3_makeVersion 30 = .ok (.getfield 36, 3) := by decide +kernel
theorem dX3_makeVersion_33 : decode cX3_makeVersion 33 = .ok (.putfield 39, 3) := by decide +kernel
theorem dX3_makeVersion_36 : decode cX3_makeVersion 36 = .ok (.aload_n 0, 1) := by decide +kernel
theorem dX3_makeVersion_37 : decode cX3_makeVersion 37 = .ok (.iconst 0, 1) := by decide +kernel
theorem dX3_makeVersion_38 : decode cX3_makeVersion 38 = .ok (.putfield 36, 3) := by decide +kernel
theorem dX3_makeVersion_41 : decode cX3_makeVersion 41 = .ok (.return_, 1) := by decide +kernel
set_option maxRecDepth 20000 in
theorem dX3_versionOf_0 : decode cX3_versionOf 0 = .ok (.aload_n 0, 1) := by decide +kernel
theorem dX3_versionOf_1 : decode cX3_versionOf 1 = .ok (.getfield 33, 3) := by decide +kernel
theorem dX3_versionOf_4 : decode cX3_versionOf 4 = .ok (.iload_n 1, 1) := by decide +kernel
theorem dX3_versionOf_5 : decode cX3_versionOf 5 = .ok (.invokestatic 42, 3) := by decide +kernel
theorem dX3_versionOf_8 : decode cX3_versionOf 8 = .ok (.ifCond .eq 10, 3) := by decide +kernel
theorem dX3_versionOf_11 : decode cX3_versionOf 11 = .ok (.aload_n 0, 1) := by decide +kernel
theorem dX3_versionOf_12 : decode cX3_versionOf 12 = .ok (.getfield 24, 3) := by decide +kernel
theorem dX3_versionOf_15 : decode cX3_versionOf 15 = .ok (.goto 9, 3) := by decide +kernel
theorem dX3_versionOf_18 : decode cX3_versionOf 18 = .ok (.aload_n 0, 1) := by decide +kernel
theorem dX3_versionOf_19 : decode cX3_versionOf 19 = .ok (.getfield 24, 3) := by decide +kernel
theorem dX3_versionOf_22 : decode cX3_versionOf 22 = .ok (.iconst 1, 1) := by decide +kernel
theorem dX3_versionOf_23 : decode cX3_versionOf 23 = .ok (.isub, 1) := by decide +kernel
theorem dX3_versionOf_24 : decode cX3_versionOf 24 = .ok (.ireturn, 1) := by decide +kernel
set_option maxRecDepth 20000 in
theorem dX3_isGoodAt_0 : decode cX3_isGoodAt 0 = .ok (.iload_n 2, 1) := by decide +kernel
theorem dX3_isGoodAt_1 : decode cX3_isGoodAt 1 = .ok (.aload_n 0, 1) := by decide +kernel
theorem dX3_isGoodAt_2 : decode cX3_isGoodAt 2 = .ok (.getfield 24, 3) := by decide +kernel
theorem dX3_isGoodAt_5 : decode cX3_isGoodAt 5 = .ok (.if_icmp .ne 12, 3) := by decide +kernel
theorem dX3_isGoodAt_8 : decode cX3_isGoodAt 8 = .ok (.aload_n 0, 1) := by decide +kernel
theorem dX3_isGoodAt_9 : decode cX3_isGoodAt 9 = .ok (.getfield 36, 3) := by decide +kernel
theorem dX3_isGoodAt_12 : decode cX3_isGoodAt 12 = .ok (.iload_n 1, 1) := by decide +kernel
theorem dX3_isGoodAt_13 : decode cX3_isGoodAt 13 = .ok (.invokestatic 42, 3) := by decide +kernel
theorem dX3_isGoodAt_16 : decode cX3_isGoodAt 16 = .ok (.ireturn, 1) := by decide +kernel
theorem dX3_isGoodAt_17 : decode cX3_isGoodAt 17 = .ok (.iload_n 2, 1) := by decide +kernel
theorem dX3_isGoodAt_18 : decode cX3_isGoodAt 18 = .ok (.aload_n 0, 1) := by decide +kernel
theorem dX3_isGoodAt_19 : decode cX3_isGoodAt 19 = .ok (.getfield 24, 3) := by decide +kernel
theorem dX3_isGoodAt_22 : decode cX3_isGoodAt 22 = .ok (.iconst 1, 1) := by decide +kernel
theorem dX3_isGoodAt_23 : decode cX3_isGoodAt 23 = .ok (.isub, 1) := by decide +kernel
theorem dX3_isGoodAt_24 : decode cX3_isGoodAt 24 = .ok (.if_icmp .ne 18, 3) := by decide +kernel
theorem dX3_isGoodAt_27 : decode cX3_isGoodAt 27 = .ok (.aload_n 0, 1) := by decide +kernel
theorem dX3_isGoodAt_28 : decode cX3_isGoodAt 28 = .ok (.getfield 39, 3) := by decide +kernel
theorem dX3_isGoodAt_31 : decode cX3_isGoodAt 31 = .ok (.iload_n 1, 1) := by decide +kernel
theorem dX3_isGoodAt_32 : decode cX3_isGoodAt 32 = .ok (.invokestatic 42, 3) := by decide +kernel
theorem dX3_isGoodAt_35 : decode cX3_isGoodAt 35 = .ok (.ifCond .eq 7, 3) := by decide +kernel
theorem dX3_isGoodAt_38 : decode cX3_isGoodAt 38 = .ok (.iconst 1, 1) := by decide +kernel
theorem dX3_isGoodAt_39 : decode cX3_isGoodAt 39 = .ok (.goto 4, 3) := by decide +kernel
theorem dX3_isGoodAt_42 : decode cX3_isGoodAt 42 = .ok (.iconst 0, 1) := by decide +kernel
theorem dX3_isGoodAt_43 : decode cX3_isGoodAt 43 = .ok (.ireturn, 1) := by decide +kernel
theorem dX3_oldestGoodMade_0 : decode cX3_oldestGoodMade 0 = .ok (.aload_n 0, 1) := by decide +kernel
theorem dX3_oldestGoodMade_1 : decode cX3_oldestGoodMade 1 = .ok (.getfield 39, 3) := by decide +kernel
theorem dX3_oldestGoodMade_4 : decode cX3_oldestGoodMade 4 = .ok (.ifCond .eq 10, 3) := by decide +kernel
theorem dX3_oldestGoodMade_7 : decode cX3_oldestGoodMade 7 = .ok (.aload_n 0, 1) := by decide +kernel
theorem dX3_oldestGoodMade_8 : decode cX3_oldestGoodMade 8 = .ok (.getfield 30, 3) := by decide +kernel
theorem dX3_oldestGoodMade_11 : decode cX3_oldestGoodMade 11 = .ok (.goto 7, 3) := by decide +kernel
theorem dX3_oldestGoodMade_14 : decode cX3_oldestGoodMade 14 = .ok (.aload_n 0, 1) := by decide +kernel
theorem dX3_oldestGoodMade_15 : decode cX3_oldestGoodMade 15 = .ok (.getfield 27, 3) := by decide +kernel
theorem dX3_oldestGoodMade_18 : decode cX3_oldestGoodMade 18 = .ok (.ireturn, 1) := by decide +kernel
theorem dX3_lockedOut_0 : decode cX3_lockedOut 0 = .ok (.aload_n 0, 1) := by decide +kernel
theorem dX3_lockedOut_1 : decode cX3_lockedOut 1 = .ok (.getfield 36, 3) := by decide +kernel
theorem dX3_lockedOut_4 : decode cX3_lockedOut 4 = .ok (.aload_n 0, 1) := by decide +kernel
theorem dX3_lockedOut_5 : decode cX3_lockedOut 5 = .ok (.getfield 18, 3) := by decide +kernel
theorem dX3_lockedOut_8 : decode cX3_lockedOut 8 = .ok (.if_icmp .ne 7, 3) := by decide +kernel
theorem dX3_lockedOut_11 : decode cX3_lockedOut 11 = .ok (.iconst 0, 1) := by decide +kernel
theorem dX3_lockedOut_12 : decode cX3_lockedOut 12 = .ok (.goto 7, 3) := by decide +kernel
theorem dX3_lockedOut_15 : decode cX3_lockedOut 15 = .ok (.aload_n 0, 1) := by decide +kernel
theorem dX3_lockedOut_16 : decode cX3_lockedOut 16 = .ok (.getfield 33, 3) := by decide +kernel
theorem dX3_lockedOut_19 : decode cX3_lockedOut 19 = .ok (.istore_n 1, 1) := by decide +kernel
theorem dX3_lockedOut_20 : decode cX3_lockedOut 20 = .ok (.aload_n 0, 1) := by decide +kernel
theorem dX3_lockedOut_21 : decode cX3_lockedOut 21 = .ok (.getfield 39, 3) := by decide +kernel
theorem dX3_lockedOut_24 : decode cX3_lockedOut 24 = .ok (.aload_n 0, 1) := by decide +kernel
theorem dX3_lockedOut_25 : decode cX3_lockedOut 25 = .ok (.getfield 18, 3) := by decide +kernel
theorem dX3_lockedOut_28 : decode cX3_lockedOut 28 = .ok (.if_icmp .ne 7, 3) := by decide +kernel
theorem dX3_lockedOut_31 : decode cX3_lockedOut 31 = .ok (.iconst 0, 1) := by decide +kernel
theorem dX3_lockedOut_32 : decode cX3_lockedOut 32 = .ok (.goto 14, 3) := by decide +kernel
theorem dX3_lockedOut_35 : decode cX3_lockedOut 35 = .ok (.aload_n 0, 1) := by decide +kernel
theorem dX3_lockedOut_36 : decode cX3_lockedOut 36 = .ok (.getfield 15, 3) := by decide +kernel
theorem dX3_lockedOut_39 : decode cX3_lockedOut 39 = .ok (.aload_n 0, 1) := by decide +kernel
theorem dX3_lockedOut_40 : decode cX3_lockedOut 40 = .ok (.getfield 33, 3) := by decide +kernel
theorem dX3_lockedOut_43 : decode cX3_lockedOut 43 = .ok (.iconst (-1), 1) := by decide +kernel
theorem dX3_lockedOut_44 : decode cX3_lockedOut 44 = .ok (.ixor, 1) := by decide +kernel
theorem dX3_lockedOut_45 : decode cX3_lockedOut 45 = .ok (.iand, 1) := by decide +kernel
theorem dX3_lockedOut_46 : decode cX3_lockedOut 46 = .ok (.istore_n 2, 1) := by decide +kernel
theorem dX3_lockedOut_47 : decode cX3_lockedOut 47 = .ok (.iload_n 1, 1) := by decide +kernel
theorem dX3_lockedOut_48 : decode cX3_lockedOut 48 = .ok (.iload_n 2, 1) := by decide +kernel
theorem dX3_lockedOut_49 : decode cX3_lockedOut 49 = .ok (.ior, 1) := by decide +kernel
theorem dX3_lockedOut_50 : decode cX3_lockedOut 50 = .ok (.ireturn, 1) := by decide +kernel
theorem dX3_endOfLife_0 : decode cX3_endOfLife 0 = .ok (.aload_n 0, 1) := by decide +kernel
theorem dX3_endOfLife_1 : decode cX3_endOfLife 1 = .ok (.getfield 27, 3) := by decide +kernel
theorem dX3_endOfLife_4 : decode cX3_endOfLife 4 = .ok (.aload_n 0, 1) := by decide +kernel
theorem dX3_endOfLife_5 : decode cX3_endOfLife 5 = .ok (.getfield 21, 3) := by decide +kernel
theorem dX3_endOfLife_8 : decode cX3_endOfLife 8 = .ok (.iadd, 1) := by decide +kernel
theorem dX3_endOfLife_9 : decode cX3_endOfLife 9 = .ok (.ireturn, 1) := by decide +kernel
theorem dX4_init_0 : decode cX4_init 0 = .ok (.aload_n 0, 1) := by decide +kernel
theorem dX4_init_1 : decode cX4_init 1 = .ok (.invokespecial 3, 3) := by decide +kernel
theorem dX4_init_4 : decode cX4_init 4 = .ok (.aload_n 0, 1) := by decide +kernel
theorem dX4_init_5 : decode cX4_init 5 = .ok (.bipush 12, 2) := by decide +kernel
theorem dX4_init_7 : decode cX4_init 7 = .ok (.newarray .int, 2) := by decide +kernel
theorem dX4_init_9 : decode cX4_init 9 = .ok (.putfield 9, 3) := by decide +kernel
theorem dX4_init_12 : decode cX4_init 12 = .ok (.return_, 1) := by decide +kernel
set_option maxRecDepth 20000 in
theorem dX4_isDirect_0 : decode cX4_isDirect 0 = .ok (.aload_n 0, 1) := by decide +kernel
theorem dX4_isDirect_1 : decode cX4_isDirect 1 = .ok (.getfield 9, 3) := by decide +kernel
theorem dX4_isDirect_4 : decode cX4_isDirect 4 = .ok (.iload_n 1, 1) := by decide +kernel
theorem dX4_isDirect_5 : decode cX4_isDirect 5 = .ok (.iaload, 1) := by decide +kernel
theorem dX4_isDirect_6 : decode cX4_isDirect 6 = .ok (.iload_n 2, 1) := by decide +kernel
theorem dX4_isDirect_7 : decode cX4_isDirect 7 = .ok (.invokestatic 15, 3) := by decide +kernel
theorem dX4_isDirect_10 : decode cX4_isDirect 10 = .ok (.ireturn, 1) := by decide +kernel
theorem dX4_put_0 : decode cX4_put 0 = .ok (.iconst 1, 1) := by decide +kernel
theorem dX4_put_1 : decode cX4_put 1 = .ok (.iload_n 2, 1) := by decide +kernel
theorem dX4_put_2 : decode cX4_put 2 = .ok (.ishl, 1) := by decide +kernel
theorem dX4_put_3 : decode cX4_put 3 = .ok (.istore 4, 2) := by decide +kernel
theorem dX4_put_5 : decode cX4_put 5 = .ok (.aload_n 0, 1) := by decide +kernel
theorem dX4_put_6 : decode cX4_put 6 = .ok (.getfield 9, 3) := by decide +kernel
theorem dX4_put_9 : decode cX4_put 9 = .ok (.iload_n 1, 1) := by decide +kernel
theorem dX4_put_10 : decode cX4_put 10 = .ok (.iload_n 3, 1) := by decide +kernel
theorem dX4_put_11 : decode cX4_put 11 = .ok (.ifCond .eq 15, 3) := by decide +kernel
theorem dX4_put_14 : decode cX4_put 14 = .ok (.aload_n 0, 1) := by decide +kernel
theorem dX4_put_15 : decode cX4_put 15 = .ok (.getfield 9, 3) := by decide +kernel
theorem dX4_put_18 : decode cX4_put 18 = .ok (.iload_n 1, 1) := by decide +kernel
theorem dX4_put_19 : decode cX4_put 19 = .ok (.iaload, 1) := by decide +kernel
theorem dX4_put_20 : decode cX4_put 20 = .ok (.iload 4, 2) := by decide +kernel
theorem dX4_put_22 : decode cX4_put 22 = .ok (.ior, 1) := by decide +kernel
theorem dX4_put_23 : decode cX4_put 23 = .ok (.goto 14, 3) := by decide +kernel
theorem dX4_put_26 : decode cX4_put 26 = .ok (.aload_n 0, 1) := by decide +kernel
theorem dX4_put_27 : decode cX4_put 27 = .ok (.getfield 9, 3) := by decide +kernel
theorem dX4_put_30 : decode cX4_put 30 = .ok (.iload_n 1, 1) := by decide +kernel
theorem dX4_put_31 : decode cX4_put 31 = .ok (.iaload, 1) := by decide +kernel
theorem dX4_put_32 : decode cX4_put 32 = .ok (.iload 4, 2) := by decide +kernel
theorem dX4_put_34 : decode cX4_put 34 = .ok (.iconst (-1), 1) := by decide +kernel
theorem dX4_put_35 : decode cX4_put 35 = .ok (.ixor, 1) := by decide +kernel
theorem dX4_put_36 : decode cX4_put 36 = .ok (.iand, 1) := by decide +kernel
theorem dX4_put_37 : decode cX4_put 37 = .ok (.iastore, 1) := by decide +kernel
theorem dX4_put_38 : decode cX4_put 38 = .ok (.return_, 1) := by decide +kernel
set_option maxRecDepth 20000 in
theorem dX4_isReached_0 : decode cX4_isReached 0 = .ok (.aload_n 0, 1) := by decide +kernel
theorem dX4_isReached_1 : decode cX4_isReached 1 = .ok (.getfield 9, 3) := by decide +kernel
theorem dX4_isReached_4 : decode cX4_isReached 4 = .ok (.iload_n 1, 1) := by decide +kernel
theorem dX4_isReached_5 : decode cX4_isReached 5 = .ok (.iaload, 1) := by decide +kernel
theorem dX4_isReached_6 : decode cX4_isReached 6 = .ok (.istore_n 3, 1) := by decide +kernel
theorem dX4_isReached_7 : decode cX4_isReached 7 = .ok (.iconst 0, 1) := by decide +kernel
theorem dX4_isReached_8 : decode cX4_isReached 8 = .ok (.istore 4, 2) := by decide +kernel
theorem dX4_isReached_10 : decode cX4_isReached 10 = .ok (.iconst 0, 1) := by decide +kernel
theorem dX4_isReached_11 : decode cX4_isReached 11 = .ok (.istore 5, 2) := by decide +kernel
theorem dX4_isReached_13 : decode cX4_isReached 13 = .ok (.iload 5, 2) := by decide +kernel
theorem dX4_isReached_15 : decode cX4_isReached 15 = .ok (.bipush 12, 2) := by decide +kernel
theorem dX4_isReached_17 : decode cX4_isReached 17 = .ok (.if_icmp .ge 58, 3) := by decide +kernel
theorem dX4_isReached_20 : decode cX4_isReached 20 = .ok (.iload_n 3, 1) := by decide +kernel
theorem dX4_isReached_21 : decode cX4_isReached 21 = .ok (.iload 4, 2) := by decide +kernel
theorem dX4_isReached_23 : decode cX4_isReached 23 = .ok (.if_icmp .eq 52, 3) := by decide +kernel
theorem dX4_isReached_26 : decode cX4_isReached 26 = .ok (.iload_n 3, 1) := by decide +kernel
theorem dX4_isReached_27 : decode cX4_isReached 27 = .ok (.istore 4, 2) := by decide +kernel
theorem dX4_isReached_29 : decode cX4_isReached 29 = .ok (.iconst 0, 1) := by decide +kernel
theorem dX4_isReached_30 : decode cX4_isReached 30 = .ok (.istore 6, 2) := by decide +kernel
theorem dX4_isReached_32 : decode cX4_isReached 32 = .ok (.iload 6, 2) := by decide +kernel
theorem dX4_isReached_34 : decode cX4_isReached 34 = .ok (.bipush 12, 2) := by decide +kernel
theorem dX4_isReached_36 : decode cX4_isReached 36 = .ok (.if_icmp .ge 33, 3) := by decide +kernel
theorem dX4_isReached_39 : decode cX4_isReached 39 = .ok (.iload_n 3, 1) := by decide +kernel
theorem dX4_isReached_40 : decode cX4_isReached 40 = .ok (.iload 4, 2) := by decide +kernel
theorem dX4_isReached_42 : decode cX4_isReached 42 = .ok (.iload 6, 2) := by decide +kernel
theorem dX4_isReached_44 : decode cX4_isReached 44 = .ok (.invokestatic 15, 3) := by decide +kernel
theorem dX4_isReached_47 : decode cX4_isReached 47 = .ok (.ifCond .eq 13, 3) := by decide +kernel
theorem dX4_isReached_50 : decode cX4_isReached 50 = .ok (.aload_n 0, 1) := by decide +kernel
theorem dX4_isReached_51 : decode cX4_isReached 51 = .ok (.getfield 9, 3) := by decide +kernel
theorem dX4_isReached_54 : decode cX4_isReached 54 = .ok (.iload 6, 2) := by decide +kernel
theorem dX4_isReached_56 : decode cX4_isReached 56 = .ok (.iaload, 1) := by decide +kernel
theorem dX4_isReached_57 : decode cX4_isReached 57 = .ok (.goto 4, 3) := by decide +kernel
theorem dX4_isReached_60 : decode cX4_isReached 60 = .ok (.iconst 0, 1) := by decide +kernel
theorem dX4_isReached_61 : decode cX4_isReached 61 = .ok (.ior, 1) := by decide +kernel
theorem dX4_isReached_62 : decode cX4_isReached 62 = .ok (.istore_n 3, 1) := by decide +kernel
theorem dX4_isReached_63 : decode cX4_isReached 63 = .ok (.iinc 6 1, 3) := by decide +kernel
theorem dX4_isReached_66 : decode cX4_isReached 66 = .ok (.goto (-34), 3) := by decide +kernel
theorem dX4_isReached_69 : decode cX4_isReached 69 = .ok (.iinc 5 1, 3) := by decide +kernel
theorem dX4_isReached_72 : decode cX4_isReached 72 = .ok (.goto (-59), 3) := by decide +kernel
theorem dX4_isReached_75 : decode cX4_isReached 75 = .ok (.iload_n 3, 1) := by decide +kernel
theorem dX4_isReached_76 : decode cX4_isReached 76 = .ok (.iload_n 2, 1) := by decide +kernel
theorem dX4_isReached_77 : decode cX4_isReached 77 = .ok (.invokestatic 15, 3) := by decide +kernel
theorem dX4_isReached_80 : decode cX4_isReached 80 = .ok (.ireturn, 1) := by decide +kernel
set_option maxRecDepth 20000 in
theorem dX5_init_0 : decode cX5_init 0 = .ok (.aload_n 0, 1) := by decide +kernel
theorem dX5_init_1 : decode cX5_init 1 = .ok (.invokespecial 3, 3) := by decide +kernel
theorem dX5_init_4 : decode cX5_init 4 = .ok (.aload_n 0, 1) := by decide +kernel
theorem dX5_init_5 : decode cX5_init 5 = .ok (.bipush 12, 2) := by decide +kernel
theorem dX5_init_7 : decode cX5_init 7 = .ok (.anewarray 9, 3) := by decide +kernel
theorem dX5_init_10 : decode cX5_init 10 = .ok (.putfield 11, 3) := by decide +kernel
theorem dX5_init_13 : decode cX5_init 13 = .ok (.aload_n 0, 1) := by decide +kernel
theorem dX5_init_14 : decode cX5_init 14 = .ok (.bipush 12, 2) := by decide +kernel
theorem dX5_init_16 : decode cX5_init 16 = .ok (.anewarray 15, 3) := by decide +kernel
theorem dX5_init_19 : decode cX5_init 19 = .ok (.putfield 17, 3) := by decide +kernel
theorem dX5_init_22 : decode cX5_init 22 = .ok (.aload_n 0, 1) := by decide +kernel
theorem dX5_init_23 : decode cX5_init 23 = .ok (.new 21, 3) := by decide +kernel
theorem dX5_init_26 : decode cX5_init 26 = .ok (.dup, 1) := by decide +kernel
theorem dX5_init_27 : decode cX5_init 27 = .ok (.invokespecial 23, 3) := by decide +kernel
theorem dX5_init_30 : decode cX5_init 30 = .ok (.putfield 24, 3) := by decide +kernel
theorem dX5_init_33 : decode cX5_init 33 = .ok (.aload_n 0, 1) := by decide +kernel
theorem dX5_init_34 : decode cX5_init 34 = .ok (.new 28, 3) := by decide +kernel
theorem dX5_init_37 : decode cX5_init 37 = .ok (.dup, 1) := by decide +kernel
theorem dX5_init_38 : decode cX5_init 38 = .ok (.invokespecial 30, 3) := by decide +kernel
theorem dX5_init_41 : decode cX5_init 41 = .ok (.putfield 31, 3) := by decide +kernel
theorem dX5_init_44 : decode cX5_init 44 = .ok (.aload_n 0, 1) := by decide +kernel
theorem dX5_init_45 : decode cX5_init 45 = .ok (.new 35, 3) := by decide +kernel
theorem dX5_init_48 : decode cX5_init 48 = .ok (.dup, 1) := by decide +kernel
theorem dX5_init_49 : decode cX5_init 49 = .ok (.invokespecial 37, 3) := by decide +kernel
theorem dX5_init_52 : decode cX5_init 52 = .ok (.putfield 38, 3) := by decide +kernel
theorem dX5_init_55 : decode cX5_init 55 = .ok (.aload_n 0, 1) := by decide +kernel
theorem dX5_init_56 : decode cX5_init 56 = .ok (.iconst 0, 1) := by decide +kernel
theorem dX5_init_57 : decode cX5_init 57 = .ok (.putfield 42, 3) := by decide +kernel
theorem dX5_init_60 : decode cX5_init 60 = .ok (.aload_n 0, 1) := by decide +kernel
theorem dX5_init_61 : decode cX5_init 61 = .ok (.iconst 0, 1) := by decide +kernel
theorem dX5_init_62 : decode cX5_init 62 = .ok (.putfield 46, 3) := by decide +kernel
theorem dX5_init_65 : decode cX5_init 65 = .ok (.aload_n 0, 1) := by decide +kernel
theorem dX5_init_66 : decode cX5_init 66 = .ok (.bipush 10, 2) := by decide +kernel
theorem dX5_init_68 : decode cX5_init 68 = .ok (.putfield 49, 3) := by decide +kernel
theorem dX5_init_71 : decode cX5_init 71 = .ok (.aload_n 0, 1) := by decide +kernel
theorem dX5_init_72 : decode cX5_init 72 = .ok (.bipush 100, 2) := by decide +kernel
theorem dX5_init_74 : decode cX5_init 74 = .ok (.putfield 52, 3) := by decide +kernel
theorem dX5_init_77 : decode cX5_init 77 = .ok (.aload_n 0, 1) := by decide +kernel
theorem dX5_init_78 : decode cX5_init 78 = .ok (.iconst 0, 1) := by decide +kernel
theorem dX5_init_79 : decode cX5_init 79 = .ok (.putfield 55, 3) := by decide +kernel
theorem dX5_init_82 : decode cX5_init 82 = .ok (.aload_n 0, 1) := by decide +kernel
theorem dX5_init_83 : decode cX5_init 83 = .ok (.iconst 0, 1) := by decide +kernel
theorem dX5_init_84 : decode cX5_init 84 = .ok (.putfield 58, 3) := by decide +kernel
theorem dX5_init_87 : decode cX5_init 87 = .ok (.iconst 0, 1) := by decide +kernel
theorem dX5_init_88 : decode cX5_init 88 = .ok (.istore_n 1, 1) := by decide +kernel
theorem dX5_init_89 : decode cX5_init 89 = .ok (.iload_n 1, 1) := by decide +kernel
theorem dX5_init_90 : decode cX5_init 90 = .ok (.bipush 12, 2) := by decide +kernel
theorem dX5_init_92 : decode cX5_init 92 = .ok (.if_icmp .ge 37, 3) := by decide +kernel
theorem dX5_init_95 : decode cX5_init 95 = .ok (.aload_n 0, 1) := by decide +kernel
theorem dX5_init_96 : decode cX5_init 96 = .ok (.getfield 17, 3) := by decide +kernel
theorem dX5_init_99 : decode cX5_init 99 = .ok (.iload_n 1, 1) := by decide +kernel
theorem dX5_init_100 : decode cX5_init 100 = .ok (.new 15, 3) := by decide +kernel
theorem dX5_init_103 : decode cX5_init 103 = .ok (.dup, 1) := by decide +kernel
theorem dX5_init_104 : decode cX5_init 104 = .ok (.invokespecial 61, 3) := by decide +kernel
theorem dX5_init_107 : decode cX5_init 107 = .ok (.aastore, 1) := by decide +kernel
theorem dX5_init_108 : decode cX5_init 108 = .ok (.aload_n 0, 1) := by decide +kernel
theorem dX5_init_109 : decode cX5_init 109 = .ok (.getfield 11, 3) := by decide +kernel
theorem dX5_init_112 : decode cX5_init 112 = .ok (.iload_n 1, 1) := by decide +kernel
theorem dX5_init_113 : decode cX5_init 113 = .ok (.aload_n 0, 1) := by decide +kernel
theorem dX5_init_114 : decode cX5_init 114 = .ok (.getfield 17, 3) := by decide +kernel
theorem dX5_init_117 : decode cX5_init 117 = .ok (.iload_n 1, 1) := by decide +kernel
theorem dX5_init_118 : decode cX5_init 118 = .ok (.aaload, 1) := by decide +kernel
theorem dX5_init_119 : decode cX5_init 119 = .ok (.getfield 62, 3) := by decide +kernel
theorem dX5_init_122 : decode cX5_init 122 = .ok (.aastore, 1) := by decide +kernel
theorem dX5_init_123 : decode cX5_init 123 = .ok (.iinc 1 1, 3) := by decide +kernel
theorem dX5_init_126 : decode cX5_init 126 = .ok (.goto (-37), 3) := by decide +kernel
theorem dX5_init_129 : decode cX5_init 129 = .ok (.return_, 1) := by decide +kernel
set_option maxRecDepth 20000 in
theorem dX5_secret_0 : decode cX5_secret 0 = .ok (.iload_n 1, 1) := by decide +kernel
theorem dX5_secret_1 : decode cX5_secret 1 = .ok (.ifCond .lt 48, 3) := by decide +kernel
theorem dX5_secret_4 : decode cX5_secret 4 = .ok (.iload_n 1, 1) := by decide +kernel
theorem dX5_secret_5 : decode cX5_secret 5 = .ok (.iconst 1, 1) := by decide +kernel
theorem dX5_secret_6 : decode cX5_secret 6 = .ok (.if_icmp .gt 43, 3) := by decide +kernel
theorem dX5_secret_9 : decode cX5_secret 9 = .ok (.iload_n 2, 1) := by decide +kernel
theorem dX5_secret_10 : decode cX5_secret 10 = .ok (.ifCond .lt 39, 3) := by decide +kernel
theorem dX5_secret_13 : decode cX5_secret 13 = .ok (.iload_n 2, 1) := by decide +kernel
theorem dX5_secret_14 : decode cX5_secret 14 = .ok (.sipush 1023, 3) := by decide +kernel
theorem dX5_secret_17 : decode cX5_secret 17 = .ok (.if_icmp .gt 32, 3) := by decide +kernel
theorem dX5_secret_20 : decode cX5_secret 20 = .ok (.iload_n 3, 1) := by decide +kernel
theorem dX5_secret_21 : decode cX5_secret 21 = .ok (.iconst 1, 1) := by decide +kernel
theorem dX5_secret_22 : decode cX5_secret 22 = .ok (.if_icmp .lt 27, 3) := by decide +kernel
theorem dX5_secret_25 : decode cX5_secret 25 = .ok (.iload_n 3, 1) := by decide +kernel
theorem dX5_secret_26 : decode cX5_secret 26 = .ok (.bipush 63, 2) := by decide +kernel
theorem dX5_secret_28 : decode cX5_secret 28 = .ok (.if_icmp .gt 21, 3) := by decide +kernel
theorem dX5_secret_31 : decode cX5_secret 31 = .ok (.iload 4, 2) := by decide +kernel
theorem dX5_secret_33 : decode cX5_secret 33 = .ok (.iconst 1, 1) := by decide +kernel
theorem dX5_secret_34 : decode cX5_secret 34 = .ok (.if_icmp .lt 15, 3) := by decide +kernel
theorem dX5_secret_37 : decode cX5_secret 37 = .ok (.iload 4, 2) := by decide +kernel
theorem dX5_secret_39 : decode cX5_secret 39 = .ok (.sipush 10000, 3) := by decide +kernel
theorem dX5_secret_42 : decode cX5_secret 42 = .ok (.if_icmp .gt 7, 3) := by decide +kernel
theorem dX5_secret_45 : decode cX5_secret 45 = .ok (.iconst 1, 1) := by decide +kernel
theorem dX5_secret_46 : decode cX5_secret 46 = .ok (.goto 4, 3) := by decide +kernel
theorem dX5_secret_49 : decode cX5_secret 49 = .ok (.iconst 0, 1) := by decide +kernel
theorem dX5_secret_50 : decode cX5_secret 50 = .ok (.istore 5, 2) := by decide +kernel
theorem dX5_secret_52 : decode cX5_secret 52 = .ok (.iload 5, 2) := by decide +kernel
theorem dX5_secret_54 : decode cX5_secret 54 = .ok (.ifCond .eq 12, 3) := by decide +kernel
theorem dX5_secret_57 : decode cX5_secret 57 = .ok (.aload_n 0, 1) := by decide +kernel
theorem dX5_secret_58 : decode cX5_secret 58 = .ok (.getfield 42, 3) := by decide +kernel
theorem dX5_secret_61 : decode cX5_secret 61 = .ok (.bipush 12, 2) := by decide +kernel
theorem dX5_secret_63 : decode cX5_secret 63 = .ok (.if_icmp .lt 5, 3) := by decide +kernel
theorem dX5_secret_66 : decode cX5_secret 66 = .ok (.iconst (-1), 1) := by decide +kernel
theorem dX5_secret_67 : decode cX5_secret 67 = .ok (.ireturn, 1) := by decide +kernel
theorem dX5_secret_68 : decode cX5_secret 68 = .ok (.aload_n 0, 1) := by decide +kernel
theorem dX5_secret_69 : decode cX5_secret 69 = .ok (.getfield 11, 3) := by decide +kernel
theorem dX5_secret_72 : decode cX5_secret 72 = .ok (.aload_n 0, 1) := by decide +kernel
theorem dX5_secret_73 : decode cX5_secret 73 = .ok (.getfield 42, 3) := by decide +kernel
theorem dX5_secret_76 : decode cX5_secret 76 = .ok (.aaload, 1) := by decide +kernel
theorem dX5_secret_77 : decode cX5_secret 77 = .ok (.iload_n 1, 1) := by decide +kernel
theorem dX5_secret_78 : decode cX5_secret 78 = .ok (.iload_n 2, 1) := by decide +kernel
theorem dX5_secret_79 : decode cX5_secret 79 = .ok (.iload_n 3, 1) := by decide +kernel
theorem dX5_secret_80 : decode cX5_secret 80 = .ok (.iload 4, 2) := by decide +kernel
theorem dX5_secret_82 : decode cX5_secret 82 = .ok (.aload_n 0, 1) := by decide +kernel
theorem dX5_secret_83 : decode cX5_secret 83 = .ok (.getfield 46, 3) := by decide +kernel
theorem dX5_secret_86 : decode cX5_secret 86 = .ok (.invokevirtual 66, 3) := by decide +kernel
theorem dX5_secret_89 : decode cX5_secret 89 = .ok (.aload_n 0, 1) := by decide +kernel
theorem dX5_secret_90 : decode cX5_secret 90 = .ok (.dup, 1) := by decide +kernel
theorem dX5_secret_91 : decode cX5_secret 91 = .ok (.getfield 42, 3) := by decide +kernel
theorem dX5_secret_94 : decode cX5_secret 94 = .ok (.iconst 1, 1) := by decide +kernel
theorem dX5_secret_95 : decode cX5_secret 95 = .ok (.iadd, 1) := by decide +kernel
theorem dX5_secret_96 : decode cX5_secret 96 = .ok (.putfield 42, 3) := by decide +kernel
theorem dX5_secret_99 : decode cX5_secret 99 = .ok (.aload_n 0, 1) := by decide +kernel
theorem dX5_secret_100 : decode cX5_secret 100 = .ok (.getfield 42, 3) := by decide +kernel
theorem dX5_secret_103 : decode cX5_secret 103 = .ok (.iconst 1, 1) := by decide +kernel
theorem dX5_secret_104 : decode cX5_secret 104 = .ok (.isub, 1) := by decide +kernel
theorem dX5_secret_105 : decode cX5_secret 105 = .ok (.ireturn, 1) := by decide +kernel
set_option maxRecDepth 20000 in
theorem dX5_needs_0 : decode cX5_needs 0 = .ok (.aload_n 0, 1) := by decide +kernel
theorem dX5_needs_1 : decode cX5_needs 1 = .ok (.iload_n 1, 1) := by decide +kernel
theorem dX5_needs_2 : decode cX5_needs 2 = .ok (.invokevirtual 70, 3) := by decide +kernel
theorem dX5_needs_5 : decode cX5_needs 5 = .ok (.ifCond .eq 24, 3) := by decide +kernel
theorem dX5_needs_8 : decode cX5_needs 8 = .ok (.aload_n 0, 1) := by decide +kernel
theorem dX5_needs_9 : decode cX5_needs 9 = .ok (.iload_n 2, 1) := by decide +kernel
theorem dX5_needs_10 : decode cX5_needs 10 = .ok (.invokevirtual 70, 3) := by decide +kernel
theorem dX5_needs_13 : decode cX5_needs 13 = .ok (.ifCond .eq 16, 3) := by decide +kernel
theorem dX5_needs_16 : decode cX5_needs 16 = .ok (.aload_n 0, 1) := by decide +kernel
theorem dX5_needs_17 : decode cX5_needs 17 = .ok (.getfield 24, 3) := by decide +kernel
theorem dX5_needs_20 : decode cX5_needs 20 = .ok (.iload_n 1, 1) := by decide +kernel
theorem dX5_needs_21 : decode cX5_needs 21 = .ok (.iload_n 2, 1) := by decide +kernel
theorem dX5_needs_22 : decode cX5_needs 22 = .ok (.invokevirtual 74, 3) := by decide +kernel
theorem dX5_needs_25 : decode cX5_needs 25 = .ok (.iload_n 3, 1) := by decide +kernel
theorem dX5_needs_26 : decode cX5_needs 26 = .ok (.if_icmp .ne 5, 3) := by decide +kernel
theorem dX5_needs_29 : decode cX5_needs 29 = .ok (.iconst 0, 1) := by decide +kernel
theorem dX5_needs_30 : decode cX5_needs 30 = .ok (.ireturn, 1) := by decide +kernel
theorem dX5_needs_31 : decode cX5_needs 31 = .ok (.iload_n 3, 1) := by decide +kernel
theorem dX5_needs_32 : decode cX5_needs 32 = .ok (.ifCond .eq 22, 3) := by decide +kernel
theorem dX5_needs_35 : decode cX5_needs 35 = .ok (.iload_n 1, 1) := by decide +kernel
theorem dX5_needs_36 : decode cX5_needs 36 = .ok (.iload_n 2, 1) := by decide +kernel
theorem dX5_needs_37 : decode cX5_needs 37 = .ok (.if_icmp .eq 15, 3) := by decide +kernel
theorem dX5_needs_40 : decode cX5_needs 40 = .ok (.aload_n 0, 1) := by decide +kernel
theorem dX5_needs_41 : decode cX5_needs 41 = .ok (.getfield 24, 3) := by decide +kernel
theorem dX5_needs_44 : decode cX5_needs 44 = .ok (.iload_n 2, 1) := by decide +kernel
theorem dX5_needs_45 : decode cX5_needs 45 = .ok (.iload_n 1, 1) := by decide +kernel
theorem dX5_needs_46 : decode cX5_needs 46 = .ok (.invokevirtual 78, 3) := by decide +kernel
theorem dX5_needs_49 : decode cX5_needs 49 = .ok (.ifCond .eq 5, 3) := by decide +kernel
theorem dX5_needs_52 : decode cX5_needs 52 = .ok (.iconst 0, 1) := by decide +kernel
theorem dX5_needs_53 : decode cX5_needs 53 = .ok (.ireturn, 1) := by decide +kernel
theorem dX5_needs_54 : decode cX5_needs 54 = .ok (.aload_n 0, 1) := by decide +kernel
theorem dX5_needs_55 : decode cX5_needs 55 = .ok (.getfield 24, 3) := by decide +kernel
theorem dX5_needs_58 : decode cX5_needs 58 = .ok (.iload_n 1, 1) := by decide +kernel
theorem dX5_needs_59 : decode cX5_needs 59 = .ok (.iload_n 2, 1) := by decide +kernel
theorem dX5_needs_60 : decode cX5_needs 60 = .ok (.iload_n 3, 1) := by decide +kernel
theorem dX5_needs_61 : decode cX5_needs 61 = .ok (.invokevirtual 81, 3) := by decide +kernel
theorem dX5_needs_64 : decode cX5_needs 64 = .ok (.iconst 1, 1) := by decide +kernel
theorem dX5_needs_65 : decode cX5_needs 65 = .ok (.ireturn, 1) := by decide +kernel
theorem dX5_delay_0 : decode cX5_delay 0 = .ok (.iload_n 1, 1) := by decide +kernel
theorem dX5_delay_1 : decode cX5_delay 1 = .ok (.ifCond .lt 19, 3) := by decide +kernel
theorem dX5_delay_4 : decode cX5_delay 4 = .ok (.iload_n 1, 1) := by decide +kernel
theorem dX5_delay_5 : decode cX5_delay 5 = .ok (.bipush 16, 2) := by decide +kernel
theorem dX5_delay_7 : decode cX5_delay 7 = .ok (.if_icmp .ge 13, 3) := by decide +kernel
theorem dX5_delay_10 : decode cX5_delay 10 = .ok (.iload_n 2, 1) := by decide +kernel
theorem dX5_delay_11 : decode cX5_delay 11 = .ok (.ifCond .lt 9, 3) := by decide +kernel
theorem dX5_delay_14 : decode cX5_delay 14 = .ok (.iload_n 2, 1) := by decide +kernel
theorem dX5_delay_15 : decode cX5_delay 15 = .ok (.bipush 20, 2) := by decide +kernel
theorem dX5_delay_17 : decode cX5_delay 17 = .ok (.if_icmp .le 5, 3) := by decide +kernel
theorem dX5_delay_20 : decode cX5_delay 20 = .ok (.iconst 0, 1) := by decide +kernel
theorem dX5_delay_21 : decode cX5_delay 21 = .ok (.ireturn, 1) := by decide +kernel
theorem dX5_delay_22 : decode cX5_delay 22 = .ok (.aload_n 0, 1) := by decide +kernel
theorem dX5_delay_23 : decode cX5_delay 23 = .ok (.getfield 31, 3) := by decide +kernel
theorem dX5_delay_26 : decode cX5_delay 26 = .ok (.getfield 85, 3) := by decide +kernel
theorem dX5_delay_29 : decode cX5_delay 29 = .ok (.iload_n 1, 1) := by decide +kernel
theorem dX5_delay_30 : decode cX5_delay 30 = .ok (.iload_n 2, 1) := by decide +kernel
theorem dX5_delay_31 : decode cX5_delay 31 = .ok (.iastore, 1) := by decide +kernel
theorem dX5_delay_32 : decode cX5_delay 32 = .ok (.iconst 1, 1) := by decide +kernel
theorem dX5_delay_33 : decode cX5_delay 33 = .ok (.ireturn, 1) := by decide +kernel
theorem dX5_quiet_0 : decode cX5_quiet 0 = .ok (.iload_n 1, 1) := by decide +kernel
theorem dX5_quiet_1 : decode cX5_quiet 1 = .ok (.ifCond .lt 21, 3) := by decide +kernel
theorem dX5_quiet_4 : decode cX5_quiet 4 = .ok (.iload_n 1, 1) := by decide +kernel
theorem dX5_quiet_5 : decode cX5_quiet 5 = .ok (.sipush 1000, 3) := by decide +kernel
theorem dX5_quiet_8 : decode cX5_quiet 8 = .ok (.if_icmp .gt 14, 3) := by decide +kernel
theorem dX5_quiet_11 : decode cX5_quiet 11 = .ok (.iload_n 2, 1) := by decide +kernel
theorem dX5_quiet_12 : decode cX5_quiet 12 = .ok (.ifCond .lt 10, 3) := by decide +kernel
theorem dX5_quiet_15 : decode cX5_quiet 15 = .ok (.iload_n 2, 1) := by decide +kernel
theorem dX5_quiet_16 : decode cX5_quiet 16 = .ok (.sipush 10000, 3) := by decide +kernel
theorem dX5_quiet_19 : decode cX5_quiet 19 = .ok (.if_icmp .le 5, 3) := by decide +kernel
theorem dX5_quiet_22 : decode cX5_quiet 22 = .ok (.iconst 0, 1) := by decide +kernel
theorem dX5_quiet_23 : decode cX5_quiet 23 = .ok (.ireturn, 1) := by decide +kernel
theorem dX5_quiet_24 : decode cX5_quiet 24 = .ok (.aload_n 0, 1) := by decide +kernel
theorem dX5_quiet_25 : decode cX5_quiet 25 = .ok (.iload_n 1, 1) := by decide +kernel
theorem dX5_quiet_26 : decode cX5_quiet 26 = .ok (.putfield 49, 3) := by decide +kernel
theorem dX5_quiet_29 : decode cX5_quiet 29 = .ok (.aload_n 0, 1) := by decide +kernel
theorem dX5_quiet_30 : decode cX5_quiet 30 = .ok (.iload_n 2, 1) := by decide +kernel
theorem dX5_quiet_31 : decode cX5_quiet 31 = .ok (.putfield 52, 3) := by decide +kernel
theorem dX5_quiet_34 : decode cX5_quiet 34 = .ok (.iconst 1, 1) := by decide +kernel
theorem dX5_quiet_35 : decode cX5_quiet 35 = .ok (.ireturn, 1) := by decide +kernel
set_option maxRecDepth 20000 in
theorem dX5_down_0 : decode cX5_down 0 = .ok (.iload_n 1, 1) := by decide +kernel
theorem dX5_down_1 : decode cX5_down 1 = .ok (.ifCond .lt 21, 3) := by decide +kernel
theorem dX5_down_4 : decode cX5_down 4 = .ok (.iload_n 1, 1) := by decide +kernel
theorem dX5_down_5 : decode cX5_down 5 = .ok (.bipush 16, 2) := by decide +kernel
theorem dX5_down_7 : decode cX5_down 7 = .ok (.if_icmp .gt 15, 3) := by decide +kernel
theorem dX5_down_10 : decode cX5_down 10 = .ok (.aload_n 0, 1) := by decide +kernel
theorem dX5_down_11 : decode cX5_down 11 = .ok (.getfield 31, 3) := by decide +kernel
theorem dX5_down_14 : decode cX5_down 14 = .ok (.iload_n 1, 1) := by decide +kernel
theorem dX5_down_15 : decode cX5_down 15 = .ok (.invokevirtual 89, 3) := by decide +kernel
theorem dX5_down_18 : decode cX5_down 18 = .ok (.iload_n 2, 1) := by decide +kernel
theorem dX5_down_19 : decode cX5_down 19 = .ok (.if_icmp .ne 5, 3) := by decide +kernel
theorem dX5_down_22 : decode cX5_down 22 = .ok (.iconst 0, 1) := by decide +kernel
theorem dX5_down_23 : decode cX5_down 23 = .ok (.ireturn, 1) := by decide +kernel
theorem dX5_down_24 : decode cX5_down 24 = .ok (.aload_n 0, 1) := by decide +kernel
theorem dX5_down_25 : decode cX5_down 25 = .ok (.getfield 31, 3) := by decide +kernel
theorem dX5_down_28 : decode cX5_down 28 = .ok (.dup, 1) := by decide +kernel
theorem dX5_down_29 : decode cX5_down 29 = .ok (.getfield 92, 3) := by decide +kernel
theorem dX5_down_32 : decode cX5_down 32 = .ok (.iconst 1, 1) := by decide +kernel
theorem dX5_down_33 : decode cX5_down 33 = .ok (.iload_n 1, 1) := by decide +kernel
theorem dX5_down_34 : decode cX5_down 34 = .ok (.ishl, 1) := by decide +kernel
theorem dX5_down_35 : decode cX5_down 35 = .ok (.ixor, 1) := by decide +kernel
theorem dX5_down_36 : decode cX5_down 36 = .ok (.putfield 92, 3) := by decide +kernel
theorem dX5_down_39 : decode cX5_down 39 = .ok (.iconst 1, 1) := by decide +kernel
theorem dX5_down_40 : decode cX5_down 40 = .ok (.ireturn, 1) := by decide +kernel
set_option maxRecDepth 20000 in
theorem dX5_turn_0 : decode cX5_turn 0 = .ok (.aload_n 0, 1) := by decide +kernel
theorem dX5_turn_1 : decode cX5_turn 1 = .ok (.iload_n 1, 1) := by decide +kernel
theorem dX5_turn_2 : decode cX5_turn 2 = .ok (.invokevirtual 70, 3) := by decide +kernel
theorem dX5_turn_5 : decode cX5_turn 5 = .ok (.ifCond .eq 23, 3) := by decide +kernel
theorem dX5_turn_8 : decode cX5_turn 8 = .ok (.aload_n 0, 1) := by decide +kernel
theorem dX5_turn_9 : decode cX5_turn 9 = .ok (.getfield 31, 3) := by decide +kernel
theorem dX5_turn_12 : decode cX5_turn 12 = .ok (.bipush 16, 2) := by decide +kernel
theorem dX5_turn_14 : decode cX5_turn 14 = .ok (.invokevirtual 89, 3) := by decide +kernel
theorem dX5_turn_17 : decode cX5_turn 17 = .ok (.ifCond .ne 11, 3) := by decide +kernel
theorem dX5_turn_20 : decode cX5_turn 20 = .ok (.aload_n 0, 1) := by decide +kernel
theorem dX5_turn_21 : decode cX5_turn 21 = .ok (.iload_n 1, 1) := by decide +kernel
theorem dX5_turn_22 : decode cX5_turn 22 = .ok (.invokevirtual 95, 3) := by decide +kernel
theorem dX5_turn_25 : decode cX5_turn 25 = .ok (.ifCond .eq 5, 3) := by decide +kernel
theorem dX5_turn_28 : decode cX5_turn 28 = .ok (.iconst (-1), 1) := by decide +kernel
theorem dX5_turn_29 : decode cX5_turn 29 = .ok (.ireturn, 1) := by decide +kernel
theorem dX5_turn_30 : decode cX5_turn 30 = .ok (.aload_n 0, 1) := by decide +kernel
theorem dX5_turn_31 : decode cX5_turn 31 = .ok (.iload_n 1, 1) := by decide +kernel
theorem dX5_turn_32 : decode cX5_turn 32 = .ok (.iconst 0, 1) := by decide +kernel
theorem dX5_turn_33 : decode cX5_turn 33 = .ok (.invokevirtual 98, 3) := by decide +kernel
theorem dX5_turn_36 : decode cX5_turn 36 = .ok (.aload_n 0, 1) := by decide +kernel
theorem dX5_turn_37 : decode cX5_turn 37 = .ok (.getfield 11, 3) := by decide +kernel
theorem dX5_turn_40 : decode cX5_turn 40 = .ok (.iload_n 1, 1) := by decide +kernel
theorem dX5_turn_41 : decode cX5_turn 41 = .ok (.aaload, 1) := by decide +kernel
theorem dX5_turn_42 : decode cX5_turn 42 = .ok (.getfield 102, 3) := by decide +kernel
theorem dX5_turn_45 : decode cX5_turn 45 = .ok (.ireturn, 1) := by decide +kernel
set_option maxRecDepth 20000 in
theorem dX5_stolen_0 : decode cX5_stolen 0 = .ok (.aload_n 0, 1) := by decide +kernel
theorem dX5_stolen_1 : decode cX5_stolen 1 = .ok (.iload_n 1, 1) := by decide +kernel
theorem dX5_stolen_2 : decode cX5_stolen 2 = .ok (.invokevirtual 70, 3) := by decide +kernel
theorem dX5_stolen_5 : decode cX5_stolen 5 = .ok (.ifCond .eq 15, 3) := by decide +kernel
theorem dX5_stolen_8 : decode cX5_stolen 8 = .ok (.aload_n 0, 1) := by decide +kernel
theorem dX5_stolen_9 : decode cX5_stolen 9 = .ok (.getfield 31, 3) := by decide +kernel
theorem dX5_stolen_12 : decode cX5_stolen 12 = .ok (.bipush 16, 2) := by decide +kernel
theorem dX5_stolen_14 : decode cX5_stolen 14 = .ok (.invokevirtual 89, 3) := by decide +kernel
theorem dX5_stolen_17 : decode cX5_stolen 17 = .ok (.ifCond .eq 5, 3) := by decide +kernel
theorem dX5_stolen_20 : decode cX5_stolen 20 = .ok (.iconst (-1), 1) := by decide +kernel
theorem dX5_stolen_21 : decode cX5_stolen 21 = .ok (.ireturn, 1) := by decide +kernel
theorem dX5_stolen_22 : decode cX5_stolen 22 = .ok (.aload_n 0, 1) := by decide +kernel
theorem dX5_stolen_23 : decode cX5_stolen 23 = .ok (.getfield 17, 3) := by decide +kernel
theorem dX5_stolen_26 : decode cX5_stolen 26 = .ok (.iload_n 1, 1) := by decide +kernel
theorem dX5_stolen_27 : decode cX5_stolen 27 = .ok (.aaload, 1) := by decide +kernel
theorem dX5_stolen_28 : decode cX5_stolen 28 = .ok (.astore_n 2, 1) := by decide +kernel
theorem dX5_stolen_29 : decode cX5_stolen 29 = .ok (.aload_n 2, 1) := by decide +kernel
theorem dX5_stolen_30 : decode cX5_stolen 30 = .ok (.invokevirtual 105, 3) := by decide +kernel
theorem dX5_stolen_33 : decode cX5_stolen 33 = .ok (.ifCond .eq 29, 3) := by decide +kernel
theorem dX5_stolen_36 : decode cX5_stolen 36 = .ok (.aload_n 2, 1) := by decide +kernel
theorem dX5_stolen_37 : decode cX5_stolen 37 = .ok (.aload_n 0, 1) := by decide +kernel
theorem dX5_stolen_38 : decode cX5_stolen 38 = .ok (.getfield 46, 3) := by decide +kernel
theorem dX5_stolen_41 : decode cX5_stolen 41 = .ok (.aload_n 0, 1) := by decide +kernel
theorem dX5_stolen_42 : decode cX5_stolen 42 = .ok (.getfield 31, 3) := by decide +kernel
theorem dX5_stolen_45 : decode cX5_stolen 45 = .ok (.invokevirtual 109, 3) := by decide +kernel
theorem dX5_stolen_48 : decode cX5_stolen 48 = .ok (.aload_n 0, 1) := by decide +kernel
theorem dX5_stolen_49 : decode cX5_stolen 49 = .ok (.getfield 38, 3) := by decide +kernel
theorem dX5_stolen_52 : decode cX5_stolen 52 = .ok (.aload_n 2, 1) := by decide +kernel
theorem dX5_stolen_53 : decode cX5_stolen 53 = .ok (.getfield 113, 3) := by decide +kernel
theorem dX5_stolen_56 : decode cX5_stolen 56 = .ok (.invokevirtual 116, 3) := by decide +kernel
theorem dX5_stolen_59 : decode cX5_stolen 59 = .ok (.goto 9, 3) := by decide +kernel
theorem dX5_stolen_62 : decode cX5_stolen 62 = .ok (.aload_n 0, 1) := by decide +kernel
theorem dX5_stolen_63 : decode cX5_stolen 63 = .ok (.iload_n 1, 1) := by decide +kernel
theorem dX5_stolen_64 : decode cX5_stolen 64 = .ok (.iconst 1, 1) := by decide +kernel
theorem dX5_stolen_65 : decode cX5_stolen 65 = .ok (.invokevirtual 98, 3) := by decide +kernel
theorem dX5_stolen_68 : decode cX5_stolen 68 = .ok (.aload_n 0, 1) := by decide +kernel
theorem dX5_stolen_69 : decode cX5_stolen 69 = .ok (.getfield 11, 3) := by decide +kernel
theorem dX5_stolen_72 : decode cX5_stolen 72 = .ok (.iload_n 1, 1) := by decide +kernel
theorem dX5_stolen_73 : decode cX5_stolen 73 = .ok (.aaload, 1) := by decide +kernel
theorem dX5_stolen_74 : decode cX5_stolen 74 = .ok (.getfield 102, 3) := by decide +kernel
theorem dX5_stolen_77 : decode cX5_stolen 77 = .ok (.ireturn, 1) := by decide +kernel
set_option maxRecDepth 20000 in
theorem dX5_tick_0 : decode cX5_tick 0 = .ok (.iload_n 1, 1) := by decide +kernel
theorem dX5_tick_1 : decode cX5_tick 1 = .ok (.ifCond .lt 21, 3) := by decide +kernel
theorem dX5_tick_4 : decode cX5_tick 4 = .ok (.iload_n 1, 1) := by decide +kernel
theorem dX5_tick_5 : decode cX5_tick 5 = .ok (.sipush 2000, 3) := by decide +kernel
