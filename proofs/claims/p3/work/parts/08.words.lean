def WW : List Cond := lw_tbl.filter goodWord
theorem wwOf {w : Cond} (h : w ∈ lw_tbl) (g : goodWord w = true) : w ∈ WW := List.mem_filter.mpr ⟨h, g⟩
theorem ww_tbl : ∀ w ∈ WW, w ∈ lw_tbl := fun _ h => (List.mem_filter.mp h).1
theorem ww_good : ∀ w ∈ WW, goodWord w = true := fun _ h => (List.mem_filter.mp h).2
theorem tbS {w : Cond} (h : w ∈ k2_sels lw_privs) : w ∈ lw_tbl := List.mem_append_left _ h
theorem tb1 {w : Cond} (h : w ∈ tables_1_1) : w ∈ lw_tbl := List.mem_append_right _ (List.mem_append_left _ h)
theorem tb2 {w : Cond} (h : w ∈ tables_1_2) : w ∈ lw_tbl := List.mem_append_right _ (List.mem_append_right _ (List.mem_append_left _ h))
theorem tb3 {w : Cond} (h : w ∈ tables_1_3) : w ∈ lw_tbl := List.mem_append_right _ (List.mem_append_right _ (List.mem_append_right _ (List.mem_append_left _ h)))
theorem tb4 {w : Cond} (h : w ∈ tables_1_4) : w ∈ lw_tbl := List.mem_append_right _ (List.mem_append_right _ (List.mem_append_right _ (List.mem_append_right _ (h))))
theorem kw_t1_0 : (Cond.initialized RL) ∈ WW := wwOf (tb1 (List.mem_of_getElem? (i := 0) rfl)) rfl
theorem kw_t1_1 : (Cond.initialized RX5) ∈ WW := wwOf (tb1 (List.mem_of_getElem? (i := 1) rfl)) rfl
theorem kw_t1_2 : (Cond.initialized RX4) ∈ WW := wwOf (tb1 (List.mem_of_getElem? (i := 2) rfl)) rfl
theorem kw_t1_3 : (Cond.initialized RX2) ∈ WW := wwOf (tb1 (List.mem_of_getElem? (i := 3) rfl)) rfl
theorem kw_t1_4 : (Cond.initialized RX1) ∈ WW := wwOf (tb1 (List.mem_of_getElem? (i := 4) rfl)) rfl
theorem kw_t1_5 : (Cond.initialized RX0) ∈ WW := wwOf (tb1 (List.mem_of_getElem? (i := 5) rfl)) rfl
theorem kw_t1_6 : (Cond.initialized RX3) ∈ WW := wwOf (tb1 (List.mem_of_getElem? (i := 6) rfl)) rfl
theorem kw_t1_7 : (Cond.initialized RX6) ∈ WW := wwOf (tb1 (List.mem_of_getElem? (i := 7) rfl)) rfl
theorem kw_t1_8 : (Cond.initialized RJ9) ∈ WW := wwOf (tb1 (List.mem_of_getElem? (i := 8) rfl)) rfl
theorem kw_t1_9 : (Cond.initialized RJ6) ∈ WW := wwOf (tb1 (List.mem_of_getElem? (i := 9) rfl)) rfl
theorem kw_t1_10 : (Cond.initialized "java/lang/Throwable") ∈ WW := wwOf (tb1 (List.mem_of_getElem? (i := 10) rfl)) rfl
theorem kw_t1_11 : (Cond.initialized "java/lang/Exception") ∈ WW := wwOf (tb1 (List.mem_of_getElem? (i := 11) rfl)) rfl
theorem kw_t1_12 : (Cond.initialized "java/lang/RuntimeException") ∈ WW := wwOf (tb1 (List.mem_of_getElem? (i := 12) rfl)) rfl
theorem kw_t1_13 : (Cond.initialized "java/util/NoSuchElementException") ∈ WW := wwOf (tb1 (List.mem_of_getElem? (i := 13) rfl)) rfl
theorem kw_t1_14 : (Cond.classLink RL 8 RX5) ∈ WW := wwOf (tb1 (List.mem_of_getElem? (i := 14) rfl)) rfl
theorem kw_t1_15 : (Cond.instantiable RX5 11) ∈ WW := wwOf (tb1 (List.mem_of_getElem? (i := 15) rfl)) rfl
theorem kw_t1_16 : (Cond.methodLink RL 15 yX5_init) ∈ WW := wwOf (tb1 (List.mem_of_getElem? (i := 16) rfl)) rfl
theorem kw_t1_17 : (Cond.instanceMethod yX5_init) ∈ WW := wwOf (tb1 (List.mem_of_getElem? (i := 17) rfl)) rfl
theorem kw_t1_18 : (Cond.code yX5_init prog_1_method_1_code 2 (Option.none : Option Jvm.ClassFile.FieldType)) ∈ WW := wwOf (tb1 (List.mem_of_getElem? (i := 18) rfl)) rfl
theorem kw_t1_19 : (Cond.methodLink RX5 3 objectInit) ∈ WW := wwOf (tb1 (List.mem_of_getElem? (i := 19) rfl)) rfl
theorem kw_t1_20 : (Cond.instanceMethod objectInit) ∈ WW := wwOf (tb1 (List.mem_of_getElem? (i := 20) rfl)) rfl
theorem kw_t1_21 : (Cond.code objectInit object_method_1_code 1 (Option.none : Option Jvm.ClassFile.FieldType)) ∈ WW := wwOf (tb1 (List.mem_of_getElem? (i := 21) rfl)) rfl
theorem kw_t1_22 : (Cond.classLink RX5 9 RX3) ∈ WW := wwOf (tb1 (List.mem_of_getElem? (i := 22) rfl)) rfl
theorem kw_t1_24 : (Cond.classLink RX5 15 RX0) ∈ WW := wwOf (tb1 (List.mem_of_getElem? (i := 24) rfl)) rfl
theorem kw_t1_26 : (Cond.classLink RX5 21 RX4) ∈ WW := wwOf (tb1 (List.mem_of_getElem? (i := 26) rfl)) rfl
theorem kw_t1_27 : (Cond.instantiable RX4 1) ∈ WW := wwOf (tb1 (List.mem_of_getElem? (i := 27) rfl)) rfl
theorem kw_t1_29 : (Cond.instanceMethod yX4_init) ∈ WW := wwOf (tb1 (List.mem_of_getElem? (i := 29) rfl)) rfl
theorem kw_t1_30 : (Cond.code yX4_init prog_6_method_1_code 1 (Option.none : Option Jvm.ClassFile.FieldType)) ∈ WW := wwOf (tb1 (List.mem_of_getElem? (i := 30) rfl)) rfl
theorem kw_t1_31 : (Cond.methodLink RX4 3 objectInit) ∈ WW := wwOf (tb1 (List.mem_of_getElem? (i := 31) rfl)) rfl
theorem kw_t1_32 : (Cond.fieldLink RX4 9 "KeyTurner$Web" "direct" "[I") ∈ WW := wwOf (tb1 (List.mem_of_getElem? (i := 32) rfl)) rfl
theorem kw_t1_33 : (Cond.fieldLink RX5 258 "KeyTurner$Web" "direct" "[I") ∈ WW := wwOf (tb1 (List.mem_of_getElem? (i := 33) rfl)) rfl
theorem kw_t1_36 : (Cond.superclass RX4 "java/lang/Object") ∈ WW := wwOf (tb1 (List.mem_of_getElem? (i := 36) rfl)) rfl
theorem kw_t1_37 : (Cond.arrayClass Jvm.ClassFile.FieldType.int) ∈ WW := wwOf (tb1 (List.mem_of_getElem? (i := 37) rfl)) rfl
theorem kw_t1_38 : (Cond.classLink RX5 28 RX2) ∈ WW := wwOf (tb1 (List.mem_of_getElem? (i := 38) rfl)) rfl
theorem kw_t1_39 : (Cond.instantiable RX2 2) ∈ WW := wwOf (tb1 (List.mem_of_getElem? (i := 39) rfl)) rfl
theorem kw_t1_40 : (Cond.methodLink RX5 30 yX2_init) ∈ WW := wwOf (tb1 (List.mem_of_getElem? (i := 40) rfl)) rfl
theorem kw_t1_41 : (Cond.instanceMethod yX2_init) ∈ WW := wwOf (tb1 (List.mem_of_getElem? (i := 41) rfl)) rfl
theorem kw_t1_42 : (Cond.code yX2_init prog_4_method_1_code 2 (Option.none : Option Jvm.ClassFile.FieldType)) ∈ WW := wwOf (tb1 (List.mem_of_getElem? (i := 42) rfl)) rfl
theorem kw_t1_43 : (Cond.methodLink RX2 3 objectInit) ∈ WW := wwOf (tb1 (List.mem_of_getElem? (i := 43) rfl)) rfl
theorem kw_t1_44 : (Cond.fieldLink RX2 9 "KeyTurner$People" "delays" "[I") ∈ WW := wwOf (tb1 (List.mem_of_getElem? (i := 44) rfl)) rfl
theorem kw_t1_45 : (Cond.fieldLink RX5 85 "KeyTurner$People" "delays" "[I") ∈ WW := wwOf (tb1 (List.mem_of_getElem? (i := 45) rfl)) rfl
theorem kw_t1_46 : (Cond.fieldLink RX0 71 "KeyTurner$People" "delays" "[I") ∈ WW := wwOf (tb1 (List.mem_of_getElem? (i := 46) rfl)) rfl
theorem kw_t1_47 : (Cond.fieldLink RX2 15 "KeyTurner$People" "downBits" "I") ∈ WW := wwOf (tb1 (List.mem_of_getElem? (i := 47) rfl)) rfl
theorem kw_t1_48 : (Cond.fieldLink RX5 92 "KeyTurner$People" "downBits" "I") ∈ WW := wwOf (tb1 (List.mem_of_getElem? (i := 48) rfl)) rfl
theorem kw_t1_53 : (Cond.superclass RX2 "java/lang/Object") ∈ WW := wwOf (tb1 (List.mem_of_getElem? (i := 53) rfl)) rfl
theorem kw_t1_54 : (Cond.classLink RX5 35 RX1) ∈ WW := wwOf (tb1 (List.mem_of_getElem? (i := 54) rfl)) rfl
theorem kw_t1_55 : (Cond.instantiable RX1 2) ∈ WW := wwOf (tb1 (List.mem_of_getElem? (i := 55) rfl)) rfl
theorem kw_t1_57 : (Cond.instanceMethod yX1_init) ∈ WW := wwOf (tb1 (List.mem_of_getElem? (i := 57) rfl)) rfl
theorem kw_t1_58 : (Cond.code yX1_init prog_3_method_1_code 1 (Option.none : Option Jvm.ClassFile.FieldType)) ∈ WW := wwOf (tb1 (List.mem_of_getElem? (i := 58) rfl)) rfl
theorem kw_t1_59 : (Cond.methodLink RX1 3 objectInit) ∈ WW := wwOf (tb1 (List.mem_of_getElem? (i := 59) rfl)) rfl
theorem kw_t1_60 : (Cond.fieldLink RX1 11 "KeyTurner$Log" "rows" "[I") ∈ WW := wwOf (tb1 (List.mem_of_getElem? (i := 60) rfl)) rfl
theorem kw_t1_61 : (Cond.fieldLink RX5 196 "KeyTurner$Log" "rows" "[I") ∈ WW := wwOf (tb1 (List.mem_of_getElem? (i := 61) rfl)) rfl
theorem kw_t1_62 : (Cond.fieldLink RX1 15 "KeyTurner$Log" "begun" "I") ∈ WW := wwOf (tb1 (List.mem_of_getElem? (i := 62) rfl)) rfl
theorem kw_t1_63 : (Cond.fieldLink RX5 199 "KeyTurner$Log" "begun" "I") ∈ WW := wwOf (tb1 (List.mem_of_getElem? (i := 63) rfl)) rfl
theorem kw_t1_68 : (Cond.superclass RX1 "java/lang/Object") ∈ WW := wwOf (tb1 (List.mem_of_getElem? (i := 68) rfl)) rfl
theorem kw_t1_69 : (Cond.instantiable RX0 9) ∈ WW := wwOf (tb1 (List.mem_of_getElem? (i := 69) rfl)) rfl
theorem kw_t1_71 : (Cond.instanceMethod yX0_init) ∈ WW := wwOf (tb1 (List.mem_of_getElem? (i := 71) rfl)) rfl
theorem kw_t1_72 : (Cond.code yX0_init prog_2_method_1_code 1 (Option.none : Option Jvm.ClassFile.FieldType)) ∈ WW := wwOf (tb1 (List.mem_of_getElem? (i := 72) rfl)) rfl
theorem kw_t1_73 : (Cond.methodLink RX0 3 objectInit) ∈ WW := wwOf (tb1 (List.mem_of_getElem? (i := 73) rfl)) rfl
theorem kw_t1_74 : (Cond.classLink RX0 9 RX3) ∈ WW := wwOf (tb1 (List.mem_of_getElem? (i := 74) rfl)) rfl
theorem kw_t1_75 : (Cond.instantiable RX3 10) ∈ WW := wwOf (tb1 (List.mem_of_getElem? (i := 75) rfl)) rfl
theorem kw_t1_77 : (Cond.instanceMethod yX3_init) ∈ WW := wwOf (tb1 (List.mem_of_getElem? (i := 77) rfl)) rfl
theorem kw_t1_78 : (Cond.code yX3_init prog_5_method_1_code 1 (Option.none : Option Jvm.ClassFile.FieldType)) ∈ WW := wwOf (tb1 (List.mem_of_getElem? (i := 78) rfl)) rfl
theorem kw_t1_79 : (Cond.methodLink RX3 3 objectInit) ∈ WW := wwOf (tb1 (List.mem_of_getElem? (i := 79) rfl)) rfl
theorem kw_t1_80 : (Cond.fieldLink RX3 9 "KeyTurner$Secret" "kind" "I") ∈ WW := wwOf (tb1 (List.mem_of_getElem? (i := 80) rfl)) rfl
theorem kw_t1_81 : (Cond.fieldLink RX0 51 "KeyTurner$Secret" "kind" "I") ∈ WW := wwOf (tb1 (List.mem_of_getElem? (i := 81) rfl)) rfl
theorem kw_t1_82 : (Cond.fieldLink RX5 152 "KeyTurner$Secret" "kind" "I") ∈ WW := wwOf (tb1 (List.mem_of_getElem? (i := 82) rfl)) rfl
theorem kw_t1_83 : (Cond.fieldLink RX3 15 "KeyTurner$Secret" "holders" "I") ∈ WW := wwOf (tb1 (List.mem_of_getElem? (i := 83) rfl)) rfl
theorem kw_t1_84 : (Cond.fieldLink RX0 58 "KeyTurner$Secret" "holders" "I") ∈ WW := wwOf (tb1 (List.mem_of_getElem? (i := 84) rfl)) rfl
theorem kw_t1_85 : (Cond.fieldLink RX5 132 "KeyTurner$Secret" "holders" "I") ∈ WW := wwOf (tb1 (List.mem_of_getElem? (i := 85) rfl)) rfl
theorem kw_t1_86 : (Cond.fieldLink RX3 18 "KeyTurner$Secret" "checkers" "I") ∈ WW := wwOf (tb1 (List.mem_of_getElem? (i := 86) rfl)) rfl
theorem kw_t1_87 : (Cond.fieldLink RX0 64 "KeyTurner$Secret" "checkers" "I") ∈ WW := wwOf (tb1 (List.mem_of_getElem? (i := 87) rfl)) rfl
theorem kw_t1_88 : (Cond.fieldLink RX5 138 "KeyTurner$Secret" "checkers" "I") ∈ WW := wwOf (tb1 (List.mem_of_getElem? (i := 88) rfl)) rfl
theorem kw_t1_89 : (Cond.fieldLink RX3 21 "KeyTurner$Secret" "life" "I") ∈ WW := wwOf (tb1 (List.mem_of_getElem? (i := 89) rfl)) rfl
theorem kw_t1_90 : (Cond.fieldLink RX5 155 "KeyTurner$Secret" "life" "I") ∈ WW := wwOf (tb1 (List.mem_of_getElem? (i := 90) rfl)) rfl
theorem kw_t1_91 : (Cond.fieldLink RX3 24 "KeyTurner$Secret" "latest" "I") ∈ WW := wwOf (tb1 (List.mem_of_getElem? (i := 91) rfl)) rfl
theorem kw_t1_92 : (Cond.fieldLink RX5 102 "KeyTurner$Secret" "latest" "I") ∈ WW := wwOf (tb1 (List.mem_of_getElem? (i := 92) rfl)) rfl
theorem kw_t1_93 : (Cond.fieldLink RX0 113 "KeyTurner$Secret" "latest" "I") ∈ WW := wwOf (tb1 (List.mem_of_getElem? (i := 93) rfl)) rfl
theorem kw_t1_94 : (Cond.fieldLink RX3 27 "KeyTurner$Secret" "latestMade" "I") ∈ WW := wwOf (tb1 (List.mem_of_getElem? (i := 94) rfl)) rfl
theorem kw_t1_95 : (Cond.fieldLink RX5 161 "KeyTurner$Secret" "latestMade" "I") ∈ WW := wwOf (tb1 (List.mem_of_getElem? (i := 95) rfl)) rfl
theorem kw_t1_96 : (Cond.fieldLink RX3 30 "KeyTurner$Secret" "olderMade" "I") ∈ WW := wwOf (tb1 (List.mem_of_getElem? (i := 96) rfl)) rfl
theorem kw_t1_97 : (Cond.fieldLink RX3 33 "KeyTurner$Secret" "latestHeld" "I") ∈ WW := wwOf (tb1 (List.mem_of_getElem? (i := 97) rfl)) rfl
theorem kw_t1_98 : (Cond.fieldLink RX0 90 "KeyTurner$Secret" "latestHeld" "I") ∈ WW := wwOf (tb1 (List.mem_of_getElem? (i := 98) rfl)) rfl
theorem kw_t1_99 : (Cond.fieldLink RX3 36 "KeyTurner$Secret" "latestGood" "I") ∈ WW := wwOf (tb1 (List.mem_of_getElem? (i := 99) rfl)) rfl
theorem kw_t1_100 : (Cond.fieldLink RX0 93 "KeyTurner$Secret" "latestGood" "I") ∈ WW := wwOf (tb1 (List.mem_of_getElem? (i := 100) rfl)) rfl
theorem kw_t1_101 : (Cond.fieldLink RX3 39 "KeyTurner$Secret" "olderGood" "I") ∈ WW := wwOf (tb1 (List.mem_of_getElem? (i := 101) rfl)) rfl
theorem kw_t1_102 : (Cond.fieldLink RX0 96 "KeyTurner$Secret" "olderGood" "I") ∈ WW := wwOf (tb1 (List.mem_of_getElem? (i := 102) rfl)) rfl
theorem kw_t1_123 : (Cond.superclass RX3 "java/lang/Object") ∈ WW := wwOf (tb1 (List.mem_of_getElem? (i := 123) rfl)) rfl
theorem kw_t1_124 : (Cond.fieldLink RX0 12 "KeyTurner$Course" "secret" "LKeyTurner$Secret;") ∈ WW := wwOf (tb1 (List.mem_of_getElem? (i := 124) rfl)) rfl
theorem kw_t1_125 : (Cond.fieldLink RX5 62 "KeyTurner$Course" "secret" "LKeyTurner$Secret;") ∈ WW := wwOf (tb1 (List.mem_of_getElem? (i := 125) rfl)) rfl
theorem kw_t1_126 : (Cond.fieldLink RX0 18 "KeyTurner$Course" "comes" "[I") ∈ WW := wwOf (tb1 (List.mem_of_getElem? (i := 126) rfl)) rfl
theorem kw_t1_127 : (Cond.fieldLink RX0 22 "KeyTurner$Course" "unanswered" "I") ∈ WW := wwOf (tb1 (List.mem_of_getElem? (i := 127) rfl)) rfl
theorem kw_t1_128 : (Cond.fieldLink RX0 26 "KeyTurner$Course" "turn" "I") ∈ WW := wwOf (tb1 (List.mem_of_getElem? (i := 128) rfl)) rfl
theorem kw_t1_129 : (Cond.fieldLink RX5 113 "KeyTurner$Course" "turn" "I") ∈ WW := wwOf (tb1 (List.mem_of_getElem? (i := 129) rfl)) rfl
theorem kw_t1_130 : (Cond.fieldLink RX0 29 "KeyTurner$Course" "step" "I") ∈ WW := wwOf (tb1 (List.mem_of_getElem? (i := 130) rfl)) rfl
theorem kw_t1_131 : (Cond.fieldLink RX5 158 "KeyTurner$Course" "step" "I") ∈ WW := wwOf (tb1 (List.mem_of_getElem? (i := 131) rfl)) rfl
theorem kw_t1_132 : (Cond.fieldLink RX0 32 "KeyTurner$Course" "stepBegan" "I") ∈ WW := wwOf (tb1 (List.mem_of_getElem? (i := 132) rfl)) rfl
theorem kw_t1_133 : (Cond.fieldLink RX5 177 "KeyTurner$Course" "stepBegan" "I") ∈ WW := wwOf (tb1 (List.mem_of_getElem? (i := 133) rfl)) rfl
theorem kw_t1_134 : (Cond.fieldLink RX0 35 "KeyTurner$Course" "late" "I") ∈ WW := wwOf (tb1 (List.mem_of_getElem? (i := 134) rfl)) rfl
theorem kw_t1_135 : (Cond.fieldLink RX5 168 "KeyTurner$Course" "late" "I") ∈ WW := wwOf (tb1 (List.mem_of_getElem? (i := 135) rfl)) rfl
theorem kw_t1_136 : (Cond.fieldLink RX0 38 "KeyTurner$Course" "latestLateAsk" "I") ∈ WW := wwOf (tb1 (List.mem_of_getElem? (i := 136) rfl)) rfl
theorem kw_t1_137 : (Cond.fieldLink RX0 41 "KeyTurner$Course" "handsOutLast" "Z") ∈ WW := wwOf (tb1 (List.mem_of_getElem? (i := 137) rfl)) rfl
theorem kw_t1_156 : (Cond.superclass RX0 "java/lang/Object") ∈ WW := wwOf (tb1 (List.mem_of_getElem? (i := 156) rfl)) rfl
theorem kw_t1_157 : (Cond.fieldLink RX5 11 "KeyTurner" "secrets" "[LKeyTurner$Secret;") ∈ WW := wwOf (tb1 (List.mem_of_getElem? (i := 157) rfl)) rfl
theorem kw_t1_158 : (Cond.fieldLink RX5 17 "KeyTurner" "courses" "[LKeyTurner$Course;") ∈ WW := wwOf (tb1 (List.mem_of_getElem? (i := 158) rfl)) rfl
theorem kw_t1_159 : (Cond.fieldLink RX5 24 "KeyTurner" "web" "LKeyTurner$Web;") ∈ WW := wwOf (tb1 (List.mem_of_getElem? (i := 159) rfl)) rfl
theorem kw_t1_160 : (Cond.fieldLink RX5 31 "KeyTurner" "people" "LKeyTurner$People;") ∈ WW := wwOf (tb1 (List.mem_of_getElem? (i := 160) rfl)) rfl
theorem kw_t1_161 : (Cond.fieldLink RX5 38 "KeyTurner" "log" "LKeyTurner$Log;") ∈ WW := wwOf (tb1 (List.mem_of_getElem? (i := 161) rfl)) rfl
theorem kw_t1_162 : (Cond.fieldLink RX5 42 "KeyTurner" "secretCount" "I") ∈ WW := wwOf (tb1 (List.mem_of_getElem? (i := 162) rfl)) rfl
theorem kw_t1_163 : (Cond.fieldLink RX5 46 "KeyTurner" "now" "I") ∈ WW := wwOf (tb1 (List.mem_of_getElem? (i := 163) rfl)) rfl
theorem kw_t1_164 : (Cond.fieldLink RX5 49 "KeyTurner" "quiet" "I") ∈ WW := wwOf (tb1 (List.mem_of_getElem? (i := 164) rfl)) rfl
theorem kw_t1_165 : (Cond.fieldLink RX5 52 "KeyTurner" "last" "I") ∈ WW := wwOf (tb1 (List.mem_of_getElem? (i := 165) rfl)) rfl
theorem kw_t1_166 : (Cond.fieldLink RX5 55 "KeyTurner" "passed" "I") ∈ WW := wwOf (tb1 (List.mem_of_getElem? (i := 166) rfl)) rfl
theorem kw_t1_167 : (Cond.fieldLink RX5 58 "KeyTurner" "failed" "I") ∈ WW := wwOf (tb1 (List.mem_of_getElem? (i := 167) rfl)) rfl
theorem kw_t1_190 : (Cond.superclass RX5 "java/lang/Object") ∈ WW := wwOf (tb1 (List.mem_of_getElem? (i := 190) rfl)) rfl
theorem kw_t1_191 : (Cond.methodLink RL 19 yX5_secret) ∈ WW := wwOf (tb1 (List.mem_of_getElem? (i := 191) rfl)) rfl
theorem kw_t1_192 : (Cond.instanceMethod yX5_secret) ∈ WW := wwOf (tb1 (List.mem_of_getElem? (i := 192) rfl)) rfl
theorem kw_t1_193 : (Cond.selects RX5 yX5_secret yX5_secret) ∈ WW := wwOf (tb1 (List.mem_of_getElem? (i := 193) rfl)) rfl
theorem kw_t1_194 : (Cond.code yX5_secret prog_1_method_2_code 6 (Option.some Jvm.ClassFile.FieldType.int)) ∈ WW := wwOf (tb1 (List.mem_of_getElem? (i := 194) rfl)) rfl
theorem kw_t1_195 : (Cond.methodLink RX5 66 yX3_open) ∈ WW := wwOf (tb1 (List.mem_of_getElem? (i := 195) rfl)) rfl
theorem kw_t1_196 : (Cond.instanceMethod yX3_open) ∈ WW := wwOf (tb1 (List.mem_of_getElem? (i := 196) rfl)) rfl
theorem kw_t1_197 : (Cond.selects RX3 yX3_open yX3_open) ∈ WW := wwOf (tb1 (List.mem_of_getElem? (i := 197) rfl)) rfl
theorem kw_t1_198 : (Cond.code yX3_open prog_5_method_2_code 6 (Option.none : Option Jvm.ClassFile.FieldType)) ∈ WW := wwOf (tb1 (List.mem_of_getElem? (i := 198) rfl)) rfl
theorem kw_t1_199 : (Cond.methodLink RL 24 yX5_needs) ∈ WW := wwOf (tb1 (List.mem_of_getElem? (i := 199) rfl)) rfl
theorem kw_t1_200 : (Cond.instanceMethod yX5_needs) ∈ WW := wwOf (tb1 (List.mem_of_getElem? (i := 200) rfl)) rfl
theorem kw_t1_201 : (Cond.selects RX5 yX5_needs yX5_needs) ∈ WW := wwOf (tb1 (List.mem_of_getElem? (i := 201) rfl)) rfl
theorem kw_t1_202 : (Cond.code yX5_needs prog_1_method_3_code 4 (Option.some Jvm.ClassFile.FieldType.boolean)) ∈ WW := wwOf (tb1 (List.mem_of_getElem? (i := 202) rfl)) rfl
theorem kw_t1_203 : (Cond.methodLink RX5 70 yX5_isSecret) ∈ WW := wwOf (tb1 (List.mem_of_getElem? (i := 203) rfl)) rfl
theorem kw_t1_205 : (Cond.instanceMethod yX5_isSecret) ∈ WW := wwOf (tb1 (List.mem_of_getElem? (i := 205) rfl)) rfl
theorem kw_t1_206 : (Cond.code yX5_isSecret prog_1_method_20_code 2 (Option.some Jvm.ClassFile.FieldType.boolean)) ∈ WW := wwOf (tb1 (List.mem_of_getElem? (i := 206) rfl)) rfl
theorem kw_t1_207 : (Cond.methodLink RX5 74 yX4_isDirect) ∈ WW := wwOf (tb1 (List.mem_of_getElem? (i := 207) rfl)) rfl
theorem kw_t1_208 : (Cond.instanceMethod yX4_isDirect) ∈ WW := wwOf (tb1 (List.mem_of_getElem? (i := 208) rfl)) rfl
theorem kw_t1_209 : (Cond.selects RX4 yX4_isDirect yX4_isDirect) ∈ WW := wwOf (tb1 (List.mem_of_getElem? (i := 209) rfl)) rfl
theorem kw_t1_210 : (Cond.code yX4_isDirect prog_6_method_2_code 3 (Option.some Jvm.ClassFile.FieldType.boolean)) ∈ WW := wwOf (tb1 (List.mem_of_getElem? (i := 210) rfl)) rfl
theorem kw_t1_212 : (Cond.static yX5_isIn) ∈ WW := wwOf (tb1 (List.mem_of_getElem? (i := 212) rfl)) rfl
theorem kw_t1_213 : (Cond.code yX5_isIn prog_1_method_19_code 2 (Option.some Jvm.ClassFile.FieldType.boolean)) ∈ WW := wwOf (tb1 (List.mem_of_getElem? (i := 213) rfl)) rfl
theorem kw_t1_214 : (Cond.methodLink RX5 78 yX4_isReached) ∈ WW := wwOf (tb1 (List.mem_of_getElem? (i := 214) rfl)) rfl
theorem kw_t1_215 : (Cond.instanceMethod yX4_isReached) ∈ WW := wwOf (tb1 (List.mem_of_getElem? (i := 215) rfl)) rfl
theorem kw_t1_216 : (Cond.selects RX4 yX4_isReached yX4_isReached) ∈ WW := wwOf (tb1 (List.mem_of_getElem? (i := 216) rfl)) rfl
theorem kw_t1_217 : (Cond.code yX4_isReached prog_6_method_4_code 7 (Option.some Jvm.ClassFile.FieldType.boolean)) ∈ WW := wwOf (tb1 (List.mem_of_getElem? (i := 217) rfl)) rfl
theorem kw_t1_218 : (Cond.methodLink RX5 81 yX4_put) ∈ WW := wwOf (tb1 (List.mem_of_getElem? (i := 218) rfl)) rfl
theorem kw_t1_219 : (Cond.instanceMethod yX4_put) ∈ WW := wwOf (tb1 (List.mem_of_getElem? (i := 219) rfl)) rfl
theorem kw_t1_220 : (Cond.selects RX4 yX4_put yX4_put) ∈ WW := wwOf (tb1 (List.mem_of_getElem? (i := 220) rfl)) rfl
theorem kw_t1_221 : (Cond.code yX4_put prog_6_method_3_code 5 (Option.none : Option Jvm.ClassFile.FieldType)) ∈ WW := wwOf (tb1 (List.mem_of_getElem? (i := 221) rfl)) rfl
theorem kw_t1_222 : (Cond.methodLink RL 29 yX5_delay) ∈ WW := wwOf (tb1 (List.mem_of_getElem? (i := 222) rfl)) rfl
theorem kw_t1_223 : (Cond.instanceMethod yX5_delay) ∈ WW := wwOf (tb1 (List.mem_of_getElem? (i := 223) rfl)) rfl
theorem kw_t1_224 : (Cond.selects RX5 yX5_delay yX5_delay) ∈ WW := wwOf (tb1 (List.mem_of_getElem? (i := 224) rfl)) rfl
theorem kw_t1_225 : (Cond.code yX5_delay prog_1_method_4_code 3 (Option.some Jvm.ClassFile.FieldType.boolean)) ∈ WW := wwOf (tb1 (List.mem_of_getElem? (i := 225) rfl)) rfl
theorem kw_t1_226 : (Cond.methodLink RL 34 yX5_quiet) ∈ WW := wwOf (tb1 (List.mem_of_getElem? (i := 226) rfl)) rfl
theorem kw_t1_227 : (Cond.instanceMethod yX5_quiet) ∈ WW := wwOf (tb1 (List.mem_of_getElem? (i := 227) rfl)) rfl
theorem kw_t1_228 : (Cond.selects RX5 yX5_quiet yX5_quiet) ∈ WW := wwOf (tb1 (List.mem_of_getElem? (i := 228) rfl)) rfl
theorem kw_t1_229 : (Cond.code yX5_quiet prog_1_method_5_code 3 (Option.some Jvm.ClassFile.FieldType.boolean)) ∈ WW := wwOf (tb1 (List.mem_of_getElem? (i := 229) rfl)) rfl
theorem kw_t1_230 : (Cond.methodLink RL 38 yX5_down) ∈ WW := wwOf (tb1 (List.mem_of_getElem? (i := 230) rfl)) rfl
theorem kw_t1_231 : (Cond.instanceMethod yX5_down) ∈ WW := wwOf (tb1 (List.mem_of_getElem? (i := 231) rfl)) rfl
theorem kw_t1_232 : (Cond.selects RX5 yX5_down yX5_down) ∈ WW := wwOf (tb1 (List.mem_of_getElem? (i := 232) rfl)) rfl
theorem kw_t1_233 : (Cond.code yX5_down prog_1_method_6_code 3 (Option.some Jvm.ClassFile.FieldType.boolean)) ∈ WW := wwOf (tb1 (List.mem_of_getElem? (i := 233) rfl)) rfl
theorem kw_t1_234 : (Cond.methodLink RX5 89 yX2_isDown) ∈ WW := wwOf (tb1 (List.mem_of_getElem? (i := 234) rfl)) rfl
theorem kw_t1_235 : (Cond.instanceMethod yX2_isDown) ∈ WW := wwOf (tb1 (List.mem_of_getElem? (i := 235) rfl)) rfl
theorem kw_t1_236 : (Cond.selects RX2 yX2_isDown yX2_isDown) ∈ WW := wwOf (tb1 (List.mem_of_getElem? (i := 236) rfl)) rfl
theorem kw_t1_237 : (Cond.code yX2_isDown prog_4_method_2_code 2 (Option.some Jvm.ClassFile.FieldType.boolean)) ∈ WW := wwOf (tb1 (List.mem_of_getElem? (i := 237) rfl)) rfl
theorem kw_t1_238 : (Cond.methodLink RL 43 yX5_turn) ∈ WW := wwOf (tb1 (List.mem_of_getElem? (i := 238) rfl)) rfl
theorem kw_t1_239 : (Cond.instanceMethod yX5_turn) ∈ WW := wwOf (tb1 (List.mem_of_getElem? (i := 239) rfl)) rfl
theorem kw_t2_0 : (Cond.selects RX5 yX5_turn yX5_turn) ∈ WW := wwOf (tb2 (List.mem_of_getElem? (i := 0) rfl)) rfl
theorem kw_t2_1 : (Cond.code yX5_turn prog_1_method_7_code 2 (Option.some Jvm.ClassFile.FieldType.int)) ∈ WW := wwOf (tb2 (List.mem_of_getElem? (i := 1) rfl)) rfl
theorem kw_t2_2 : (Cond.methodLink RX5 95 yX5_isHeldUp) ∈ WW := wwOf (tb2 (List.mem_of_getElem? (i := 2) rfl)) rfl
theorem kw_t2_4 : (Cond.instanceMethod yX5_isHeldUp) ∈ WW := wwOf (tb2 (List.mem_of_getElem? (i := 4) rfl)) rfl
theorem kw_t2_5 : (Cond.code yX5_isHeldUp prog_1_method_22_code 4 (Option.some Jvm.ClassFile.FieldType.boolean)) ∈ WW := wwOf (tb2 (List.mem_of_getElem? (i := 5) rfl)) rfl
theorem kw_t2_6 : (Cond.methodLink RX5 105 yX0_goesOn) ∈ WW := wwOf (tb2 (List.mem_of_getElem? (i := 6) rfl)) rfl
theorem kw_t2_7 : (Cond.instanceMethod yX0_goesOn) ∈ WW := wwOf (tb2 (List.mem_of_getElem? (i := 7) rfl)) rfl
theorem kw_t2_8 : (Cond.selects RX0 yX0_goesOn yX0_goesOn) ∈ WW := wwOf (tb2 (List.mem_of_getElem? (i := 8) rfl)) rfl
theorem kw_t2_9 : (Cond.code yX0_goesOn prog_2_method_2_code 1 (Option.some Jvm.ClassFile.FieldType.boolean)) ∈ WW := wwOf (tb2 (List.mem_of_getElem? (i := 9) rfl)) rfl
theorem kw_t2_10 : (Cond.methodLink RX5 98 yX5_beginTurn) ∈ WW := wwOf (tb2 (List.mem_of_getElem? (i := 10) rfl)) rfl
theorem kw_t2_12 : (Cond.instanceMethod yX5_beginTurn) ∈ WW := wwOf (tb2 (List.mem_of_getElem? (i := 12) rfl)) rfl
theorem kw_t2_13 : (Cond.code yX5_beginTurn prog_1_method_21_code 4 (Option.none : Option Jvm.ClassFile.FieldType)) ∈ WW := wwOf (tb2 (List.mem_of_getElem? (i := 13) rfl)) rfl
theorem kw_t2_14 : (Cond.methodLink RX5 211 yX3_makeVersion) ∈ WW := wwOf (tb2 (List.mem_of_getElem? (i := 14) rfl)) rfl
theorem kw_t2_15 : (Cond.instanceMethod yX3_makeVersion) ∈ WW := wwOf (tb2 (List.mem_of_getElem? (i := 15) rfl)) rfl
theorem kw_t2_16 : (Cond.selects RX3 yX3_makeVersion yX3_makeVersion) ∈ WW := wwOf (tb2 (List.mem_of_getElem? (i := 16) rfl)) rfl
theorem kw_t2_17 : (Cond.code yX3_makeVersion prog_5_method_3_code 2 (Option.none : Option Jvm.ClassFile.FieldType)) ∈ WW := wwOf (tb2 (List.mem_of_getElem? (i := 17) rfl)) rfl
theorem kw_t2_18 : (Cond.methodLink RX5 214 yX1_add) ∈ WW := wwOf (tb2 (List.mem_of_getElem? (i := 18) rfl)) rfl
theorem kw_t2_19 : (Cond.instanceMethod yX1_add) ∈ WW := wwOf (tb2 (List.mem_of_getElem? (i := 19) rfl)) rfl
theorem kw_t2_20 : (Cond.selects RX1 yX1_add yX1_add) ∈ WW := wwOf (tb2 (List.mem_of_getElem? (i := 20) rfl)) rfl
theorem kw_t2_21 : (Cond.code yX1_add prog_3_method_3_code 7 (Option.some Jvm.ClassFile.FieldType.int)) ∈ WW := wwOf (tb2 (List.mem_of_getElem? (i := 21) rfl)) rfl
theorem kw_t2_22 : (Cond.methodLink RX1 19 yX1_isKept) ∈ WW := wwOf (tb2 (List.mem_of_getElem? (i := 22) rfl)) rfl
theorem kw_t2_23 : (Cond.instanceMethod yX1_isKept) ∈ WW := wwOf (tb2 (List.mem_of_getElem? (i := 23) rfl)) rfl
theorem kw_t2_24 : (Cond.selects RX1 yX1_isKept yX1_isKept) ∈ WW := wwOf (tb2 (List.mem_of_getElem? (i := 24) rfl)) rfl
theorem kw_t2_25 : (Cond.code yX1_isKept prog_3_method_2_code 2 (Option.some Jvm.ClassFile.FieldType.boolean)) ∈ WW := wwOf (tb2 (List.mem_of_getElem? (i := 25) rfl)) rfl
theorem kw_t2_26 : (Cond.methodLink RX5 218 yX0_start) ∈ WW := wwOf (tb2 (List.mem_of_getElem? (i := 26) rfl)) rfl
theorem kw_t2_27 : (Cond.instanceMethod yX0_start) ∈ WW := wwOf (tb2 (List.mem_of_getElem? (i := 27) rfl)) rfl
theorem kw_t2_28 : (Cond.selects RX0 yX0_start yX0_start) ∈ WW := wwOf (tb2 (List.mem_of_getElem? (i := 28) rfl)) rfl
theorem kw_t2_29 : (Cond.code yX0_start prog_2_method_4_code 5 (Option.none : Option Jvm.ClassFile.FieldType)) ∈ WW := wwOf (tb2 (List.mem_of_getElem? (i := 29) rfl)) rfl
theorem kw_t2_30 : (Cond.methodLink RX0 54 yX0_beginStep) ∈ WW := wwOf (tb2 (List.mem_of_getElem? (i := 30) rfl)) rfl
theorem kw_t2_31 : (Cond.instanceMethod yX0_beginStep) ∈ WW := wwOf (tb2 (List.mem_of_getElem? (i := 31) rfl)) rfl
theorem kw_t2_32 : (Cond.selects RX0 yX0_beginStep yX0_beginStep) ∈ WW := wwOf (tb2 (List.mem_of_getElem? (i := 32) rfl)) rfl
theorem kw_t2_33 : (Cond.code yX0_beginStep prog_2_method_6_code 4 (Option.none : Option Jvm.ClassFile.FieldType)) ∈ WW := wwOf (tb2 (List.mem_of_getElem? (i := 33) rfl)) rfl
theorem kw_t2_34 : (Cond.methodLink RX0 61 yX0_write) ∈ WW := wwOf (tb2 (List.mem_of_getElem? (i := 34) rfl)) rfl
theorem kw_t2_35 : (Cond.instanceMethod yX0_write) ∈ WW := wwOf (tb2 (List.mem_of_getElem? (i := 35) rfl)) rfl
theorem kw_t2_36 : (Cond.selects RX0 yX0_write yX0_write) ∈ WW := wwOf (tb2 (List.mem_of_getElem? (i := 36) rfl)) rfl
theorem kw_t2_37 : (Cond.code yX0_write prog_2_method_7_code 5 (Option.none : Option Jvm.ClassFile.FieldType)) ∈ WW := wwOf (tb2 (List.mem_of_getElem? (i := 37) rfl)) rfl
theorem kw_t2_39 : (Cond.methodLink RX0 76 Lib.Math.max.name) ∈ WW := wwOf (tb2 (List.mem_of_getElem? (i := 39) rfl)) rfl
theorem kw_t2_40 : (Cond.static Lib.Math.max.name) ∈ WW := wwOf (tb2 (List.mem_of_getElem? (i := 40) rfl)) rfl
theorem kw_t2_41 : (Cond.code Lib.Math.max.name prog_11_method_65_code 2 (Option.some Jvm.ClassFile.FieldType.int)) ∈ WW := wwOf (tb2 (List.mem_of_getElem? (i := 41) rfl)) rfl
theorem kw_t2_42 : (Cond.methodLink RL 48 yX5_stolen) ∈ WW := wwOf (tb2 (List.mem_of_getElem? (i := 42) rfl)) rfl
theorem kw_t2_43 : (Cond.instanceMethod yX5_stolen) ∈ WW := wwOf (tb2 (List.mem_of_getElem? (i := 43) rfl)) rfl
theorem kw_t2_44 : (Cond.selects RX5 yX5_stolen yX5_stolen) ∈ WW := wwOf (tb2 (List.mem_of_getElem? (i := 44) rfl)) rfl
theorem kw_t2_45 : (Cond.code yX5_stolen prog_1_method_8_code 3 (Option.some Jvm.ClassFile.FieldType.int)) ∈ WW := wwOf (tb2 (List.mem_of_getElem? (i := 45) rfl)) rfl
theorem kw_t2_46 : (Cond.methodLink RX5 109 yX0_hurry) ∈ WW := wwOf (tb2 (List.mem_of_getElem? (i := 46) rfl)) rfl
theorem kw_t2_47 : (Cond.instanceMethod yX0_hurry) ∈ WW := wwOf (tb2 (List.mem_of_getElem? (i := 47) rfl)) rfl
theorem kw_t2_48 : (Cond.selects RX0 yX0_hurry yX0_hurry) ∈ WW := wwOf (tb2 (List.mem_of_getElem? (i := 48) rfl)) rfl
theorem kw_t2_49 : (Cond.code yX0_hurry prog_2_method_5_code 3 (Option.none : Option Jvm.ClassFile.FieldType)) ∈ WW := wwOf (tb2 (List.mem_of_getElem? (i := 49) rfl)) rfl
theorem kw_t2_50 : (Cond.methodLink RX5 116 yX1_markStolen) ∈ WW := wwOf (tb2 (List.mem_of_getElem? (i := 50) rfl)) rfl
theorem kw_t2_51 : (Cond.instanceMethod yX1_markStolen) ∈ WW := wwOf (tb2 (List.mem_of_getElem? (i := 51) rfl)) rfl
theorem kw_t2_52 : (Cond.selects RX1 yX1_markStolen yX1_markStolen) ∈ WW := wwOf (tb2 (List.mem_of_getElem? (i := 52) rfl)) rfl
theorem kw_t2_53 : (Cond.code yX1_markStolen prog_3_method_5_code 2 (Option.none : Option Jvm.ClassFile.FieldType)) ∈ WW := wwOf (tb2 (List.mem_of_getElem? (i := 53) rfl)) rfl
theorem kw_t2_54 : (Cond.methodLink RL 52 yX5_tick) ∈ WW := wwOf (tb2 (List.mem_of_getElem? (i := 54) rfl)) rfl
theorem kw_t2_55 : (Cond.instanceMethod yX5_tick) ∈ WW := wwOf (tb2 (List.mem_of_getElem? (i := 55) rfl)) rfl
theorem kw_t2_56 : (Cond.selects RX5 yX5_tick yX5_tick) ∈ WW := wwOf (tb2 (List.mem_of_getElem? (i := 56) rfl)) rfl
theorem kw_t2_57 : (Cond.code yX5_tick prog_1_method_9_code 5 (Option.some Jvm.ClassFile.FieldType.int)) ∈ WW := wwOf (tb2 (List.mem_of_getElem? (i := 57) rfl)) rfl
theorem kw_t2_58 : (Cond.constant RX5 120 (100000 : Int32)) ∈ WW := wwOf (tb2 (List.mem_of_getElem? (i := 58) rfl)) rfl
theorem kw_t2_59 : (Cond.methodLink RX5 121 yX5_nextStir) ∈ WW := wwOf (tb2 (List.mem_of_getElem? (i := 59) rfl)) rfl
theorem kw_t2_61 : (Cond.instanceMethod yX5_nextStir) ∈ WW := wwOf (tb2 (List.mem_of_getElem? (i := 61) rfl)) rfl
theorem kw_t2_62 : (Cond.code yX5_nextStir prog_1_method_23_code 4 (Option.some Jvm.ClassFile.FieldType.int)) ∈ WW := wwOf (tb2 (List.mem_of_getElem? (i := 62) rfl)) rfl
theorem kw_t2_63 : (Cond.methodLink RX5 222 yX0_nextLetter) ∈ WW := wwOf (tb2 (List.mem_of_getElem? (i := 63) rfl)) rfl
theorem kw_t2_64 : (Cond.instanceMethod yX0_nextLetter) ∈ WW := wwOf (tb2 (List.mem_of_getElem? (i := 64) rfl)) rfl
theorem kw_t2_65 : (Cond.selects RX0 yX0_nextLetter yX0_nextLetter) ∈ WW := wwOf (tb2 (List.mem_of_getElem? (i := 65) rfl)) rfl
theorem kw_t2_66 : (Cond.code yX0_nextLetter prog_2_method_13_code 5 (Option.some Jvm.ClassFile.FieldType.int)) ∈ WW := wwOf (tb2 (List.mem_of_getElem? (i := 66) rfl)) rfl
theorem kw_t2_67 : (Cond.methodLink RX0 82 yX2_isDown) ∈ WW := wwOf (tb2 (List.mem_of_getElem? (i := 67) rfl)) rfl
theorem kw_t2_68 : (Cond.methodLink RX0 106 Lib.Math.min.name) ∈ WW := wwOf (tb2 (List.mem_of_getElem? (i := 68) rfl)) rfl
theorem kw_t2_69 : (Cond.static Lib.Math.min.name) ∈ WW := wwOf (tb2 (List.mem_of_getElem? (i := 69) rfl)) rfl
theorem kw_t2_70 : (Cond.code Lib.Math.min.name prog_11_method_69_code 2 (Option.some Jvm.ClassFile.FieldType.int)) ∈ WW := wwOf (tb2 (List.mem_of_getElem? (i := 70) rfl)) rfl
theorem kw_t2_71 : (Cond.methodLink RX5 226 Lib.Math.min.name) ∈ WW := wwOf (tb2 (List.mem_of_getElem? (i := 71) rfl)) rfl
theorem kw_t2_72 : (Cond.methodLink RX5 232 yX0_nextStepEnd) ∈ WW := wwOf (tb2 (List.mem_of_getElem? (i := 72) rfl)) rfl
theorem kw_t2_73 : (Cond.instanceMethod yX0_nextStepEnd) ∈ WW := wwOf (tb2 (List.mem_of_getElem? (i := 73) rfl)) rfl
theorem kw_t2_74 : (Cond.selects RX0 yX0_nextStepEnd yX0_nextStepEnd) ∈ WW := wwOf (tb2 (List.mem_of_getElem? (i := 74) rfl)) rfl
theorem kw_t2_75 : (Cond.code yX0_nextStepEnd prog_2_method_14_code 5 (Option.some Jvm.ClassFile.FieldType.int)) ∈ WW := wwOf (tb2 (List.mem_of_getElem? (i := 75) rfl)) rfl
theorem kw_t2_76 : (Cond.methodLink RX0 99 yX0_endOfWait) ∈ WW := wwOf (tb2 (List.mem_of_getElem? (i := 76) rfl)) rfl
theorem kw_t2_77 : (Cond.instanceMethod yX0_endOfWait) ∈ WW := wwOf (tb2 (List.mem_of_getElem? (i := 77) rfl)) rfl
theorem kw_t2_78 : (Cond.selects RX0 yX0_endOfWait yX0_endOfWait) ∈ WW := wwOf (tb2 (List.mem_of_getElem? (i := 78) rfl)) rfl
theorem kw_t2_79 : (Cond.code yX0_endOfWait prog_2_method_11_code 3 (Option.some Jvm.ClassFile.FieldType.int)) ∈ WW := wwOf (tb2 (List.mem_of_getElem? (i := 79) rfl)) rfl
theorem kw_t2_80 : (Cond.methodLink RX0 109 yX0_isStepOver) ∈ WW := wwOf (tb2 (List.mem_of_getElem? (i := 80) rfl)) rfl
theorem kw_t2_81 : (Cond.instanceMethod yX0_isStepOver) ∈ WW := wwOf (tb2 (List.mem_of_getElem? (i := 81) rfl)) rfl
theorem kw_t2_82 : (Cond.selects RX0 yX0_isStepOver yX0_isStepOver) ∈ WW := wwOf (tb2 (List.mem_of_getElem? (i := 82) rfl)) rfl
theorem kw_t2_83 : (Cond.code yX0_isStepOver prog_2_method_10_code 4 (Option.some Jvm.ClassFile.FieldType.boolean)) ∈ WW := wwOf (tb2 (List.mem_of_getElem? (i := 83) rfl)) rfl
theorem kw_t2_84 : (Cond.methodLink RX0 102 yX0_goesOn) ∈ WW := wwOf (tb2 (List.mem_of_getElem? (i := 84) rfl)) rfl
theorem kw_t2_85 : (Cond.methodLink RX5 236 Lib.Math.max.name) ∈ WW := wwOf (tb2 (List.mem_of_getElem? (i := 85) rfl)) rfl
theorem kw_t2_86 : (Cond.methodLink RX5 125 yX0_takeLetters) ∈ WW := wwOf (tb2 (List.mem_of_getElem? (i := 86) rfl)) rfl
theorem kw_t2_87 : (Cond.instanceMethod yX0_takeLetters) ∈ WW := wwOf (tb2 (List.mem_of_getElem? (i := 87) rfl)) rfl
theorem kw_t2_88 : (Cond.selects RX0 yX0_takeLetters yX0_takeLetters) ∈ WW := wwOf (tb2 (List.mem_of_getElem? (i := 88) rfl)) rfl
theorem kw_t2_89 : (Cond.code yX0_takeLetters prog_2_method_8_code 4 (Option.none : Option Jvm.ClassFile.FieldType)) ∈ WW := wwOf (tb2 (List.mem_of_getElem? (i := 89) rfl)) rfl
theorem kw_t2_90 : (Cond.methodLink RX0 86 yX0_act) ∈ WW := wwOf (tb2 (List.mem_of_getElem? (i := 90) rfl)) rfl
theorem kw_t2_91 : (Cond.instanceMethod yX0_act) ∈ WW := wwOf (tb2 (List.mem_of_getElem? (i := 91) rfl)) rfl
theorem kw_t2_92 : (Cond.selects RX0 yX0_act yX0_act) ∈ WW := wwOf (tb2 (List.mem_of_getElem? (i := 92) rfl)) rfl
theorem kw_t2_93 : (Cond.code yX0_act prog_2_method_9_code 3 (Option.none : Option Jvm.ClassFile.FieldType)) ∈ WW := wwOf (tb2 (List.mem_of_getElem? (i := 93) rfl)) rfl
theorem kw_t2_94 : (Cond.methodLink RX5 128 yX5_goOn) ∈ WW := wwOf (tb2 (List.mem_of_getElem? (i := 94) rfl)) rfl
theorem kw_t2_96 : (Cond.instanceMethod yX5_goOn) ∈ WW := wwOf (tb2 (List.mem_of_getElem? (i := 96) rfl)) rfl
theorem kw_t2_97 : (Cond.code yX5_goOn prog_1_method_24_code 4 (Option.none : Option Jvm.ClassFile.FieldType)) ∈ WW := wwOf (tb2 (List.mem_of_getElem? (i := 97) rfl)) rfl
theorem kw_t2_98 : (Cond.methodLink RX5 239 yX0_isStepOver) ∈ WW := wwOf (tb2 (List.mem_of_getElem? (i := 98) rfl)) rfl
theorem kw_t2_99 : (Cond.methodLink RX5 243 yX0_followingStep) ∈ WW := wwOf (tb2 (List.mem_of_getElem? (i := 99) rfl)) rfl
theorem kw_t2_100 : (Cond.instanceMethod yX0_followingStep) ∈ WW := wwOf (tb2 (List.mem_of_getElem? (i := 100) rfl)) rfl
theorem kw_t2_101 : (Cond.selects RX0 yX0_followingStep yX0_followingStep) ∈ WW := wwOf (tb2 (List.mem_of_getElem? (i := 101) rfl)) rfl
theorem kw_t2_102 : (Cond.code yX0_followingStep prog_2_method_12_code 1 (Option.some Jvm.ClassFile.FieldType.int)) ∈ WW := wwOf (tb2 (List.mem_of_getElem? (i := 102) rfl)) rfl
theorem kw_t2_103 : (Cond.methodLink RX5 246 yX1_markOver) ∈ WW := wwOf (tb2 (List.mem_of_getElem? (i := 103) rfl)) rfl
theorem kw_t2_104 : (Cond.instanceMethod yX1_markOver) ∈ WW := wwOf (tb2 (List.mem_of_getElem? (i := 104) rfl)) rfl
theorem kw_t2_105 : (Cond.selects RX1 yX1_markOver yX1_markOver) ∈ WW := wwOf (tb2 (List.mem_of_getElem? (i := 105) rfl)) rfl
theorem kw_t2_106 : (Cond.code yX1_markOver prog_3_method_4_code 3 (Option.none : Option Jvm.ClassFile.FieldType)) ∈ WW := wwOf (tb2 (List.mem_of_getElem? (i := 106) rfl)) rfl
theorem kw_t2_107 : (Cond.methodLink RX5 250 yX0_beginStep) ∈ WW := wwOf (tb2 (List.mem_of_getElem? (i := 107) rfl)) rfl
theorem kw_t2_108 : (Cond.methodLink RL 56 yX5_ask) ∈ WW := wwOf (tb2 (List.mem_of_getElem? (i := 108) rfl)) rfl
theorem kw_t2_109 : (Cond.instanceMethod yX5_ask) ∈ WW := wwOf (tb2 (List.mem_of_getElem? (i := 109) rfl)) rfl
theorem kw_t2_110 : (Cond.selects RX5 yX5_ask yX5_ask) ∈ WW := wwOf (tb2 (List.mem_of_getElem? (i := 110) rfl)) rfl
theorem kw_t2_111 : (Cond.code yX5_ask prog_1_method_10_code 7 (Option.some Jvm.ClassFile.FieldType.int)) ∈ WW := wwOf (tb2 (List.mem_of_getElem? (i := 111) rfl)) rfl
theorem kw_t2_112 : (Cond.methodLink RX5 135 yX5_isIn) ∈ WW := wwOf (tb2 (List.mem_of_getElem? (i := 112) rfl)) rfl
theorem kw_t2_113 : (Cond.methodLink RX5 141 yX3_versionOf) ∈ WW := wwOf (tb2 (List.mem_of_getElem? (i := 113) rfl)) rfl
theorem kw_t2_114 : (Cond.instanceMethod yX3_versionOf) ∈ WW := wwOf (tb2 (List.mem_of_getElem? (i := 114) rfl)) rfl
theorem kw_t2_115 : (Cond.selects RX3 yX3_versionOf yX3_versionOf) ∈ WW := wwOf (tb2 (List.mem_of_getElem? (i := 115) rfl)) rfl
theorem kw_t2_116 : (Cond.code yX3_versionOf prog_5_method_4_code 2 (Option.some Jvm.ClassFile.FieldType.int)) ∈ WW := wwOf (tb2 (List.mem_of_getElem? (i := 116) rfl)) rfl
theorem kw_t2_118 : (Cond.methodLink RX5 144 yX5_opens) ∈ WW := wwOf (tb2 (List.mem_of_getElem? (i := 118) rfl)) rfl
theorem kw_t2_120 : (Cond.instanceMethod yX5_opens) ∈ WW := wwOf (tb2 (List.mem_of_getElem? (i := 120) rfl)) rfl
theorem kw_t2_121 : (Cond.code yX5_opens prog_1_method_25_code 4 (Option.some Jvm.ClassFile.FieldType.boolean)) ∈ WW := wwOf (tb2 (List.mem_of_getElem? (i := 121) rfl)) rfl
theorem kw_t2_122 : (Cond.methodLink RX5 180 yX3_isGoodAt) ∈ WW := wwOf (tb2 (List.mem_of_getElem? (i := 122) rfl)) rfl
theorem kw_t2_123 : (Cond.instanceMethod yX3_isGoodAt) ∈ WW := wwOf (tb2 (List.mem_of_getElem? (i := 123) rfl)) rfl
theorem kw_t2_124 : (Cond.selects RX3 yX3_isGoodAt yX3_isGoodAt) ∈ WW := wwOf (tb2 (List.mem_of_getElem? (i := 124) rfl)) rfl
theorem kw_t2_125 : (Cond.code yX3_isGoodAt prog_5_method_5_code 3 (Option.some Jvm.ClassFile.FieldType.boolean)) ∈ WW := wwOf (tb2 (List.mem_of_getElem? (i := 125) rfl)) rfl
theorem kw_t2_126 : (Cond.methodLink RX5 148 yX5_noteAsk) ∈ WW := wwOf (tb2 (List.mem_of_getElem? (i := 126) rfl)) rfl
theorem kw_t2_128 : (Cond.instanceMethod yX5_noteAsk) ∈ WW := wwOf (tb2 (List.mem_of_getElem? (i := 128) rfl)) rfl
theorem kw_t2_129 : (Cond.code yX5_noteAsk prog_1_method_26_code 5 (Option.some Jvm.ClassFile.FieldType.int)) ∈ WW := wwOf (tb2 (List.mem_of_getElem? (i := 129) rfl)) rfl
theorem kw_t2_130 : (Cond.methodLink RX5 254 yX0_notePass) ∈ WW := wwOf (tb2 (List.mem_of_getElem? (i := 130) rfl)) rfl
theorem kw_t2_131 : (Cond.instanceMethod yX0_notePass) ∈ WW := wwOf (tb2 (List.mem_of_getElem? (i := 131) rfl)) rfl
theorem kw_t2_132 : (Cond.selects RX0 yX0_notePass yX0_notePass) ∈ WW := wwOf (tb2 (List.mem_of_getElem? (i := 132) rfl)) rfl
theorem kw_t2_133 : (Cond.code yX0_notePass prog_2_method_15_code 4 (Option.none : Option Jvm.ClassFile.FieldType)) ∈ WW := wwOf (tb2 (List.mem_of_getElem? (i := 133) rfl)) rfl
theorem kw_t2_134 : (Cond.methodLink RL 61 yX5_stranger) ∈ WW := wwOf (tb2 (List.mem_of_getElem? (i := 134) rfl)) rfl
theorem kw_t2_135 : (Cond.instanceMethod yX5_stranger) ∈ WW := wwOf (tb2 (List.mem_of_getElem? (i := 135) rfl)) rfl
theorem kw_t2_136 : (Cond.selects RX5 yX5_stranger yX5_stranger) ∈ WW := wwOf (tb2 (List.mem_of_getElem? (i := 136) rfl)) rfl
theorem kw_t2_137 : (Cond.code yX5_stranger prog_1_method_11_code 6 (Option.some Jvm.ClassFile.FieldType.int)) ∈ WW := wwOf (tb2 (List.mem_of_getElem? (i := 137) rfl)) rfl
theorem kw_t2_138 : (Cond.methodLink RL 65 yX5_told) ∈ WW := wwOf (tb2 (List.mem_of_getElem? (i := 138) rfl)) rfl
theorem kw_t2_139 : (Cond.instanceMethod yX5_told) ∈ WW := wwOf (tb2 (List.mem_of_getElem? (i := 139) rfl)) rfl
theorem kw_t2_140 : (Cond.selects RX5 yX5_told yX5_told) ∈ WW := wwOf (tb2 (List.mem_of_getElem? (i := 140) rfl)) rfl
theorem kw_t2_141 : (Cond.code yX5_told prog_1_method_12_code 5 (Option.some Jvm.ClassFile.FieldType.int)) ∈ WW := wwOf (tb2 (List.mem_of_getElem? (i := 141) rfl)) rfl
theorem kw_t2_142 : (Cond.methodLink RX5 164 yX3_oldestGoodMade) ∈ WW := wwOf (tb2 (List.mem_of_getElem? (i := 142) rfl)) rfl
theorem kw_t2_143 : (Cond.instanceMethod yX3_oldestGoodMade) ∈ WW := wwOf (tb2 (List.mem_of_getElem? (i := 143) rfl)) rfl
theorem kw_t2_144 : (Cond.selects RX3 yX3_oldestGoodMade yX3_oldestGoodMade) ∈ WW := wwOf (tb2 (List.mem_of_getElem? (i := 144) rfl)) rfl
theorem kw_t2_145 : (Cond.code yX3_oldestGoodMade prog_5_method_6_code 1 (Option.some Jvm.ClassFile.FieldType.int)) ∈ WW := wwOf (tb2 (List.mem_of_getElem? (i := 145) rfl)) rfl
theorem kw_t2_146 : (Cond.methodLink RX5 171 yX3_lockedOut) ∈ WW := wwOf (tb2 (List.mem_of_getElem? (i := 146) rfl)) rfl
theorem kw_t2_147 : (Cond.instanceMethod yX3_lockedOut) ∈ WW := wwOf (tb2 (List.mem_of_getElem? (i := 147) rfl)) rfl
theorem kw_t2_148 : (Cond.selects RX3 yX3_lockedOut yX3_lockedOut) ∈ WW := wwOf (tb2 (List.mem_of_getElem? (i := 148) rfl)) rfl
theorem kw_t2_149 : (Cond.code yX3_lockedOut prog_5_method_7_code 3 (Option.some Jvm.ClassFile.FieldType.int)) ∈ WW := wwOf (tb2 (List.mem_of_getElem? (i := 149) rfl)) rfl
theorem kw_t2_150 : (Cond.methodLink RX5 174 yX0_letterCount) ∈ WW := wwOf (tb2 (List.mem_of_getElem? (i := 150) rfl)) rfl
theorem kw_t2_151 : (Cond.instanceMethod yX0_letterCount) ∈ WW := wwOf (tb2 (List.mem_of_getElem? (i := 151) rfl)) rfl
theorem kw_t2_152 : (Cond.selects RX0 yX0_letterCount yX0_letterCount) ∈ WW := wwOf (tb2 (List.mem_of_getElem? (i := 152) rfl)) rfl
theorem kw_t2_153 : (Cond.code yX0_letterCount prog_2_method_3_code 1 (Option.some Jvm.ClassFile.FieldType.int)) ∈ WW := wwOf (tb2 (List.mem_of_getElem? (i := 153) rfl)) rfl
theorem kw_t2_154 : (Cond.methodLink RX0 45 yJ6_bitCount_0f7a4) ∈ WW := wwOf (tb2 (List.mem_of_getElem? (i := 154) rfl)) rfl
theorem kw_t2_155 : (Cond.static yJ6_bitCount_0f7a4) ∈ WW := wwOf (tb2 (List.mem_of_getElem? (i := 155) rfl)) rfl
theorem kw_t2_156 : (Cond.code yJ6_bitCount_0f7a4 prog_10_method_49_code 1 (Option.some Jvm.ClassFile.FieldType.int)) ∈ WW := wwOf (tb2 (List.mem_of_getElem? (i := 156) rfl)) rfl
theorem kw_t2_157 : (Cond.constant RJ6 265 (1431655765 : Int32)) ∈ WW := wwOf (tb2 (List.mem_of_getElem? (i := 157) rfl)) rfl
theorem kw_t2_158 : (Cond.constant RJ6 266 (858993459 : Int32)) ∈ WW := wwOf (tb2 (List.mem_of_getElem? (i := 158) rfl)) rfl
theorem kw_t2_159 : (Cond.constant RJ6 267 (252645135 : Int32)) ∈ WW := wwOf (tb2 (List.mem_of_getElem? (i := 159) rfl)) rfl
theorem kw_t2_160 : (Cond.methodLink RL 69 yX5_has) ∈ WW := wwOf (tb2 (List.mem_of_getElem? (i := 160) rfl)) rfl
theorem kw_t2_161 : (Cond.instanceMethod yX5_has) ∈ WW := wwOf (tb2 (List.mem_of_getElem? (i := 161) rfl)) rfl
theorem kw_t2_162 : (Cond.selects RX5 yX5_has yX5_has) ∈ WW := wwOf (tb2 (List.mem_of_getElem? (i := 162) rfl)) rfl
theorem kw_t2_163 : (Cond.code yX5_has prog_1_method_13_code 3 (Option.some Jvm.ClassFile.FieldType.int)) ∈ WW := wwOf (tb2 (List.mem_of_getElem? (i := 163) rfl)) rfl
theorem kw_t2_164 : (Cond.methodLink RL 73 yX5_good) ∈ WW := wwOf (tb2 (List.mem_of_getElem? (i := 164) rfl)) rfl
theorem kw_t2_165 : (Cond.instanceMethod yX5_good) ∈ WW := wwOf (tb2 (List.mem_of_getElem? (i := 165) rfl)) rfl
theorem kw_t2_166 : (Cond.selects RX5 yX5_good yX5_good) ∈ WW := wwOf (tb2 (List.mem_of_getElem? (i := 166) rfl)) rfl
theorem kw_t2_167 : (Cond.code yX5_good prog_1_method_14_code 4 (Option.some Jvm.ClassFile.FieldType.int)) ∈ WW := wwOf (tb2 (List.mem_of_getElem? (i := 167) rfl)) rfl
theorem kw_t2_168 : (Cond.methodLink RL 77 yX5_plan) ∈ WW := wwOf (tb2 (List.mem_of_getElem? (i := 168) rfl)) rfl
theorem kw_t2_169 : (Cond.instanceMethod yX5_plan) ∈ WW := wwOf (tb2 (List.mem_of_getElem? (i := 169) rfl)) rfl
theorem kw_t2_170 : (Cond.selects RX5 yX5_plan yX5_plan) ∈ WW := wwOf (tb2 (List.mem_of_getElem? (i := 170) rfl)) rfl
theorem kw_t2_171 : (Cond.code yX5_plan prog_1_method_15_code 5 (Option.some Jvm.ClassFile.FieldType.int)) ∈ WW := wwOf (tb2 (List.mem_of_getElem? (i := 171) rfl)) rfl
theorem kw_t2_172 : (Cond.methodLink RX5 183 yX5_nextOfPlan) ∈ WW := wwOf (tb2 (List.mem_of_getElem? (i := 172) rfl)) rfl
theorem kw_t2_174 : (Cond.instanceMethod yX5_nextOfPlan) ∈ WW := wwOf (tb2 (List.mem_of_getElem? (i := 174) rfl)) rfl
theorem kw_t2_175 : (Cond.code yX5_nextOfPlan prog_1_method_27_code 5 (Option.some Jvm.ClassFile.FieldType.int)) ∈ WW := wwOf (tb2 (List.mem_of_getElem? (i := 175) rfl)) rfl
theorem kw_t2_176 : (Cond.methodLink RX5 261 yX3_endOfLife) ∈ WW := wwOf (tb2 (List.mem_of_getElem? (i := 176) rfl)) rfl
theorem kw_t2_177 : (Cond.instanceMethod yX3_endOfLife) ∈ WW := wwOf (tb2 (List.mem_of_getElem? (i := 177) rfl)) rfl
theorem kw_t2_178 : (Cond.selects RX3 yX3_endOfLife yX3_endOfLife) ∈ WW := wwOf (tb2 (List.mem_of_getElem? (i := 178) rfl)) rfl
theorem kw_t2_179 : (Cond.code yX3_endOfLife prog_5_method_8_code 1 (Option.some Jvm.ClassFile.FieldType.int)) ∈ WW := wwOf (tb2 (List.mem_of_getElem? (i := 179) rfl)) rfl
theorem kw_t2_180 : (Cond.methodLink RL 81 yX5_hangs) ∈ WW := wwOf (tb2 (List.mem_of_getElem? (i := 180) rfl)) rfl
theorem kw_t2_181 : (Cond.instanceMethod yX5_hangs) ∈ WW := wwOf (tb2 (List.mem_of_getElem? (i := 181) rfl)) rfl
theorem kw_t2_182 : (Cond.selects RX5 yX5_hangs yX5_hangs) ∈ WW := wwOf (tb2 (List.mem_of_getElem? (i := 182) rfl)) rfl
theorem kw_t2_183 : (Cond.code yX5_hangs prog_1_method_16_code 3 (Option.some Jvm.ClassFile.FieldType.boolean)) ∈ WW := wwOf (tb2 (List.mem_of_getElem? (i := 183) rfl)) rfl
theorem kw_t2_184 : (Cond.methodLink RL 91 yX5_count) ∈ WW := wwOf (tb2 (List.mem_of_getElem? (i := 184) rfl)) rfl
theorem kw_t2_185 : (Cond.instanceMethod yX5_count) ∈ WW := wwOf (tb2 (List.mem_of_getElem? (i := 185) rfl)) rfl
theorem kw_t2_186 : (Cond.selects RX5 yX5_count yX5_count) ∈ WW := wwOf (tb2 (List.mem_of_getElem? (i := 186) rfl)) rfl
theorem kw_t2_187 : (Cond.code yX5_count prog_1_method_18_code 2 (Option.some Jvm.ClassFile.FieldType.int)) ∈ WW := wwOf (tb2 (List.mem_of_getElem? (i := 187) rfl)) rfl
theorem kw_t2_188 : (Cond.methodLink RX5 202 yX5_turnsGoingOn) ∈ WW := wwOf (tb2 (List.mem_of_getElem? (i := 188) rfl)) rfl
theorem kw_t2_190 : (Cond.instanceMethod yX5_turnsGoingOn) ∈ WW := wwOf (tb2 (List.mem_of_getElem? (i := 190) rfl)) rfl
theorem kw_t2_191 : (Cond.code yX5_turnsGoingOn prog_1_method_28_code 3 (Option.some Jvm.ClassFile.FieldType.int)) ∈ WW := wwOf (tb2 (List.mem_of_getElem? (i := 191) rfl)) rfl
theorem kw_t2_192 : (Cond.methodLink RX5 205 yX5_lettersUnanswered) ∈ WW := wwOf (tb2 (List.mem_of_getElem? (i := 192) rfl)) rfl
theorem kw_t2_194 : (Cond.instanceMethod yX5_lettersUnanswered) ∈ WW := wwOf (tb2 (List.mem_of_getElem? (i := 194) rfl)) rfl
theorem kw_t2_195 : (Cond.code yX5_lettersUnanswered prog_1_method_29_code 3 (Option.some Jvm.ClassFile.FieldType.int)) ∈ WW := wwOf (tb2 (List.mem_of_getElem? (i := 195) rfl)) rfl
theorem kw_t2_196 : (Cond.methodLink RX5 208 yX5_secretsPastLife) ∈ WW := wwOf (tb2 (List.mem_of_getElem? (i := 196) rfl)) rfl
theorem kw_t2_198 : (Cond.instanceMethod yX5_secretsPastLife) ∈ WW := wwOf (tb2 (List.mem_of_getElem? (i := 198) rfl)) rfl
theorem kw_t2_199 : (Cond.code yX5_secretsPastLife prog_1_method_30_code 3 (Option.some Jvm.ClassFile.FieldType.int)) ∈ WW := wwOf (tb2 (List.mem_of_getElem? (i := 199) rfl)) rfl
theorem kw_t2_200 : (Cond.methodLink RL 85 yL_turned) ∈ WW := wwOf (tb2 (List.mem_of_getElem? (i := 200) rfl)) rfl
theorem kw_t2_201 : (Cond.static yL_turned) ∈ WW := wwOf (tb2 (List.mem_of_getElem? (i := 201) rfl)) rfl
theorem kw_t2_202 : (Cond.codeWith yL_turned method_3_code 5 (Option.some Jvm.ClassFile.FieldType.int) [((0 : Nat), (10 : Nat), (13 : Nat), (13 : Nat))]) ∈ WW := wwOf (tb2 (List.mem_of_getElem? (i := 202) rfl)) rfl
theorem kw_t2_203 : (Cond.classLink RL 13 "java/util/NoSuchElementException") ∈ WW := wwOf (tb2 (List.mem_of_getElem? (i := 203) rfl)) rfl
theorem kw_t2_204 : (Cond.methodLink RL 7 yX5_turned) ∈ WW := wwOf (tb2 (List.mem_of_getElem? (i := 204) rfl)) rfl
theorem kw_t2_205 : (Cond.instanceMethod yX5_turned) ∈ WW := wwOf (tb2 (List.mem_of_getElem? (i := 205) rfl)) rfl
theorem kw_t2_206 : (Cond.selects RX5 yX5_turned yX5_turned) ∈ WW := wwOf (tb2 (List.mem_of_getElem? (i := 206) rfl)) rfl
theorem kw_t2_207 : (Cond.code yX5_turned prog_1_method_17_code 3 (Option.some Jvm.ClassFile.FieldType.int)) ∈ WW := wwOf (tb2 (List.mem_of_getElem? (i := 207) rfl)) rfl
theorem kw_t2_208 : (Cond.methodLink RX5 186 yX1_isKept) ∈ WW := wwOf (tb2 (List.mem_of_getElem? (i := 208) rfl)) rfl
theorem kw_t2_209 : (Cond.classLink RX5 189 "java/util/NoSuchElementException") ∈ WW := wwOf (tb2 (List.mem_of_getElem? (i := 209) rfl)) rfl
theorem kw_t2_210 : (Cond.instantiable "java/util/NoSuchElementException" 6) ∈ WW := wwOf (tb2 (List.mem_of_getElem? (i := 210) rfl)) rfl
theorem kw_t2_218 : (Cond.selects "java/util/NoSuchElementException" (⟨"java/lang/Throwable", "fillInStackTrace", "(I)Ljava/lang/Throwable;"⟩ : MethodName) (⟨"java/lang/Throwable", "fillInStackTrace", "(I)Ljava/lang/Throwable;"⟩ : MethodName)) ∈ WW := wwOf (tb2 (List.mem_of_getElem? (i := 218) rfl)) rfl
theorem kw_t2_219 : (Cond.selects "java/util/NoSuchElementException" (⟨"java/lang/Throwable", "fillInStackTrace", "()Ljava/lang/Throwable;"⟩ : MethodName) (⟨"java/lang/Throwable", "fillInStackTrace", "()Ljava/lang/Throwable;"⟩ : MethodName)) ∈ WW := wwOf (tb2 (List.mem_of_getElem? (i := 219) rfl)) rfl
theorem kw_t2_220 : (Cond.lays "java/util/NoSuchElementException" "java/lang/Throwable" "cause" "Ljava/lang/Throwable;") ∈ WW := wwOf (tb2 (List.mem_of_getElem? (i := 220) rfl)) rfl
theorem kw_t2_221 : (Cond.lays "java/lang/Throwable" "java/lang/Throwable" "cause" "Ljava/lang/Throwable;") ∈ WW := wwOf (tb2 (List.mem_of_getElem? (i := 221) rfl)) rfl
theorem kw_t2_222 : (Cond.lays "java/util/NoSuchElementException" "java/lang/Throwable" "stackTrace" "[Ljava/lang/StackTraceElement;") ∈ WW := wwOf (tb2 (List.mem_of_getElem? (i := 222) rfl)) rfl
theorem kw_t2_223 : (Cond.lays "java/lang/Throwable" "java/lang/Throwable" "stackTrace" "[Ljava/lang/StackTraceElement;") ∈ WW := wwOf (tb2 (List.mem_of_getElem? (i := 223) rfl)) rfl
theorem kw_t2_224 : (Cond.lays "java/util/NoSuchElementException" "java/lang/Throwable" "suppressedExceptions" "Ljava/util/List;") ∈ WW := wwOf (tb2 (List.mem_of_getElem? (i := 224) rfl)) rfl
theorem kw_t2_225 : (Cond.lays "java/lang/Throwable" "java/lang/Throwable" "suppressedExceptions" "Ljava/util/List;") ∈ WW := wwOf (tb2 (List.mem_of_getElem? (i := 225) rfl)) rfl
theorem kw_t2_226 : (Cond.lays "java/util/NoSuchElementException" "java/lang/Throwable" "detailMessage" "Ljava/lang/String;") ∈ WW := wwOf (tb2 (List.mem_of_getElem? (i := 226) rfl)) rfl
theorem kw_t2_227 : (Cond.lays "java/lang/Throwable" "java/lang/Throwable" "detailMessage" "Ljava/lang/String;") ∈ WW := wwOf (tb2 (List.mem_of_getElem? (i := 227) rfl)) rfl
theorem kw_t2_228 : (Cond.lays "java/util/NoSuchElementException" "java/lang/Throwable" "backtrace" "Ljava/lang/Object;") ∈ WW := wwOf (tb2 (List.mem_of_getElem? (i := 228) rfl)) rfl
theorem kw_t2_229 : (Cond.lays "java/lang/Throwable" "java/lang/Throwable" "backtrace" "Ljava/lang/Object;") ∈ WW := wwOf (tb2 (List.mem_of_getElem? (i := 229) rfl)) rfl
theorem kw_t2_230 : (Cond.fieldLink "java/lang/Throwable" 198 "java/lang/Throwable" "backtrace" "Ljava/lang/Object;") ∈ WW := wwOf (tb2 (List.mem_of_getElem? (i := 230) rfl)) rfl
theorem kw_t2_231 : (Cond.superclass "java/lang/Throwable" "java/lang/Object") ∈ WW := wwOf (tb2 (List.mem_of_getElem? (i := 231) rfl)) rfl
theorem kw_t2_232 : (Cond.instanceMethod (⟨"java/lang/Throwable", "<init>", "()V"⟩ : MethodName)) ∈ WW := wwOf (tb2 (List.mem_of_getElem? (i := 232) rfl)) rfl
theorem kw_t2_233 : (Cond.code (⟨"java/lang/Throwable", "<init>", "()V"⟩ : MethodName) prog_14_method_1_code 1 (Option.none : Option Jvm.ClassFile.FieldType)) ∈ WW := wwOf (tb2 (List.mem_of_getElem? (i := 233) rfl)) rfl
theorem kw_t2_234 : (Cond.methodLink "java/lang/Throwable" 1 objectInit) ∈ WW := wwOf (tb2 (List.mem_of_getElem? (i := 234) rfl)) rfl
theorem kw_t2_235 : (Cond.fieldLink "java/lang/Throwable" 13 "java/lang/Throwable" "UNASSIGNED_STACK" "[Ljava/lang/StackTraceElement;") ∈ WW := wwOf (tb2 (List.mem_of_getElem? (i := 235) rfl)) rfl
theorem kw_t2_237 : (Cond.fieldLink "java/lang/Throwable" 20 "java/lang/Throwable" "SUPPRESSED_SENTINEL" "Ljava/util/List;") ∈ WW := wwOf (tb2 (List.mem_of_getElem? (i := 237) rfl)) rfl
theorem kw_t2_239 : (Cond.methodLink "java/lang/Throwable" 27 (⟨"java/lang/Throwable", "fillInStackTrace", "()Ljava/lang/Throwable;"⟩ : MethodName)) ∈ WW := wwOf (tb2 (List.mem_of_getElem? (i := 239) rfl)) rfl
theorem kw_t3_0 : (Cond.instanceMethod (⟨"java/lang/Throwable", "fillInStackTrace", "()Ljava/lang/Throwable;"⟩ : MethodName)) ∈ WW := wwOf (tb3 (List.mem_of_getElem? (i := 0) rfl)) rfl
theorem kw_t3_2 : (Cond.codeSync (⟨"java/lang/Throwable", "fillInStackTrace", "()Ljava/lang/Throwable;"⟩ : MethodName) prog_14_method_18_code 1 (Option.some (Jvm.ClassFile.FieldType.object "java/lang/Throwable"))) ∈ WW := wwOf (tb3 (List.mem_of_getElem? (i := 2) rfl)) rfl
theorem kw_t3_3 : (Cond.methodLink "java/lang/Throwable" 202 (⟨"java/lang/Throwable", "fillInStackTrace", "(I)Ljava/lang/Throwable;"⟩ : MethodName)) ∈ WW := wwOf (tb3 (List.mem_of_getElem? (i := 3) rfl)) rfl
theorem kw_t3_5 : (Cond.instanceMethod (⟨"java/lang/Throwable", "fillInStackTrace", "(I)Ljava/lang/Throwable;"⟩ : MethodName)) ∈ WW := wwOf (tb3 (List.mem_of_getElem? (i := 5) rfl)) rfl
theorem kw_t3_6 : (Cond.instantiable "java/lang/Throwable" 6) ∈ WW := wwOf (tb3 (List.mem_of_getElem? (i := 6) rfl)) rfl
theorem kw_t3_7 : (Cond.native (⟨"java/lang/Throwable", "fillInStackTrace", "(I)Ljava/lang/Throwable;"⟩ : MethodName)) ∈ WW := wwOf (tb3 (List.mem_of_getElem? (i := 7) rfl)) rfl
theorem kw_t3_9 : (Cond.methodLink RX5 193 (⟨"java/util/NoSuchElementException", "<init>", "(Ljava/lang/String;)V"⟩ : MethodName)) ∈ WW := wwOf (tb3 (List.mem_of_getElem? (i := 9) rfl)) rfl
theorem kw_t3_10 : (Cond.instanceMethod (⟨"java/util/NoSuchElementException", "<init>", "(Ljava/lang/String;)V"⟩ : MethodName)) ∈ WW := wwOf (tb3 (List.mem_of_getElem? (i := 10) rfl)) rfl
theorem kw_t3_11 : (Cond.code (⟨"java/util/NoSuchElementException", "<init>", "(Ljava/lang/String;)V"⟩ : MethodName) prog_15_method_4_code 2 (Option.none : Option Jvm.ClassFile.FieldType)) ∈ WW := wwOf (tb3 (List.mem_of_getElem? (i := 11) rfl)) rfl
theorem kw_t3_12 : (Cond.methodLink "java/util/NoSuchElementException" 13 (⟨"java/lang/RuntimeException", "<init>", "(Ljava/lang/String;)V"⟩ : MethodName)) ∈ WW := wwOf (tb3 (List.mem_of_getElem? (i := 12) rfl)) rfl
theorem kw_t3_13 : (Cond.instanceMethod (⟨"java/lang/RuntimeException", "<init>", "(Ljava/lang/String;)V"⟩ : MethodName)) ∈ WW := wwOf (tb3 (List.mem_of_getElem? (i := 13) rfl)) rfl
theorem kw_t3_14 : (Cond.code (⟨"java/lang/RuntimeException", "<init>", "(Ljava/lang/String;)V"⟩ : MethodName) prog_12_method_2_code 2 (Option.none : Option Jvm.ClassFile.FieldType)) ∈ WW := wwOf (tb3 (List.mem_of_getElem? (i := 14) rfl)) rfl
theorem kw_t3_15 : (Cond.methodLink "java/lang/RuntimeException" 7 (⟨"java/lang/Exception", "<init>", "(Ljava/lang/String;)V"⟩ : MethodName)) ∈ WW := wwOf (tb3 (List.mem_of_getElem? (i := 15) rfl)) rfl
theorem kw_t3_16 : (Cond.instanceMethod (⟨"java/lang/Exception", "<init>", "(Ljava/lang/String;)V"⟩ : MethodName)) ∈ WW := wwOf (tb3 (List.mem_of_getElem? (i := 16) rfl)) rfl
theorem kw_t3_17 : (Cond.code (⟨"java/lang/Exception", "<init>", "(Ljava/lang/String;)V"⟩ : MethodName) prog_9_method_2_code 2 (Option.none : Option Jvm.ClassFile.FieldType)) ∈ WW := wwOf (tb3 (List.mem_of_getElem? (i := 17) rfl)) rfl
theorem kw_t3_18 : (Cond.methodLink "java/lang/Exception" 7 (⟨"java/lang/Throwable", "<init>", "(Ljava/lang/String;)V"⟩ : MethodName)) ∈ WW := wwOf (tb3 (List.mem_of_getElem? (i := 18) rfl)) rfl
theorem kw_t3_19 : (Cond.instanceMethod (⟨"java/lang/Throwable", "<init>", "(Ljava/lang/String;)V"⟩ : MethodName)) ∈ WW := wwOf (tb3 (List.mem_of_getElem? (i := 19) rfl)) rfl
theorem kw_t3_20 : (Cond.code (⟨"java/lang/Throwable", "<init>", "(Ljava/lang/String;)V"⟩ : MethodName) prog_14_method_2_code 2 (Option.none : Option Jvm.ClassFile.FieldType)) ∈ WW := wwOf (tb3 (List.mem_of_getElem? (i := 20) rfl)) rfl
theorem kw_t3_22 : (Cond.fieldLink "java/lang/Throwable" 31 "java/lang/Throwable" "detailMessage" "Ljava/lang/String;") ∈ WW := wwOf (tb3 (List.mem_of_getElem? (i := 22) rfl)) rfl
theorem kw_t3_23 : (Cond.fieldLink "java/lang/Throwable" 7 "java/lang/Throwable" "cause" "Ljava/lang/Throwable;") ∈ WW := wwOf (tb3 (List.mem_of_getElem? (i := 23) rfl)) rfl
theorem kw_t3_24 : (Cond.fieldLink "java/lang/Throwable" 17 "java/lang/Throwable" "stackTrace" "[Ljava/lang/StackTraceElement;") ∈ WW := wwOf (tb3 (List.mem_of_getElem? (i := 24) rfl)) rfl
theorem kw_t3_25 : (Cond.fieldLink "java/lang/Throwable" 24 "java/lang/Throwable" "suppressedExceptions" "Ljava/util/List;") ∈ WW := wwOf (tb3 (List.mem_of_getElem? (i := 25) rfl)) rfl
theorem kw_t3_33 : (Cond.superclass "java/util/NoSuchElementException" "java/lang/RuntimeException") ∈ WW := wwOf (tb3 (List.mem_of_getElem? (i := 33) rfl)) rfl
theorem kw_t3_34 : (Cond.arrayClass Jvm.ClassFile.FieldType.byte) ∈ WW := wwOf (tb3 (List.mem_of_getElem? (i := 34) rfl)) rfl
theorem kw_t3_35 : (Cond.classLink RL 16 RX6) ∈ WW := wwOf (tb3 (List.mem_of_getElem? (i := 35) rfl)) rfl
theorem kw_t3_36 : (Cond.instantiable RX6 43) ∈ WW := wwOf (tb3 (List.mem_of_getElem? (i := 36) rfl)) rfl
theorem kw_t3_37 : (Cond.methodLink RL 18 yX6_init) ∈ WW := wwOf (tb3 (List.mem_of_getElem? (i := 37) rfl)) rfl
theorem kw_t3_38 : (Cond.instanceMethod yX6_init) ∈ WW := wwOf (tb3 (List.mem_of_getElem? (i := 38) rfl)) rfl
theorem kw_t3_39 : (Cond.code yX6_init prog_8_method_1_code 2 (Option.none : Option Jvm.ClassFile.FieldType)) ∈ WW := wwOf (tb3 (List.mem_of_getElem? (i := 39) rfl)) rfl
theorem kw_t3_40 : (Cond.methodLink RX6 1 objectInit) ∈ WW := wwOf (tb3 (List.mem_of_getElem? (i := 40) rfl)) rfl
theorem kw_t3_41 : (Cond.fieldLink RX6 120 "KeyTurnerModel" "thrown" "I") ∈ WW := wwOf (tb3 (List.mem_of_getElem? (i := 41) rfl)) rfl
theorem kw_t3_42 : (Cond.fieldLink RX6 130 "KeyTurnerModel" "now" "I") ∈ WW := wwOf (tb3 (List.mem_of_getElem? (i := 42) rfl)) rfl
theorem kw_t3_43 : (Cond.fieldLink RX6 123 "KeyTurnerModel" "secrets" "I") ∈ WW := wwOf (tb3 (List.mem_of_getElem? (i := 43) rfl)) rfl
theorem kw_t3_44 : (Cond.fieldLink RX6 141 "KeyTurnerModel" "letters" "I") ∈ WW := wwOf (tb3 (List.mem_of_getElem? (i := 44) rfl)) rfl
theorem kw_t3_45 : (Cond.fieldLink RX6 179 "KeyTurnerModel" "turns" "I") ∈ WW := wwOf (tb3 (List.mem_of_getElem? (i := 45) rfl)) rfl
theorem kw_t3_46 : (Cond.fieldLink RX6 192 "KeyTurnerModel" "passed" "I") ∈ WW := wwOf (tb3 (List.mem_of_getElem? (i := 46) rfl)) rfl
theorem kw_t3_47 : (Cond.fieldLink RX6 189 "KeyTurnerModel" "failed" "I") ∈ WW := wwOf (tb3 (List.mem_of_getElem? (i := 47) rfl)) rfl
theorem kw_t3_48 : (Cond.fieldLink RX6 7 "KeyTurnerModel" "quiet" "I") ∈ WW := wwOf (tb3 (List.mem_of_getElem? (i := 48) rfl)) rfl
theorem kw_t3_49 : (Cond.fieldLink RX6 13 "KeyTurnerModel" "last" "I") ∈ WW := wwOf (tb3 (List.mem_of_getElem? (i := 49) rfl)) rfl
theorem kw_t3_50 : (Cond.fieldLink RX6 16 "KeyTurnerModel" "kind" "[I") ∈ WW := wwOf (tb3 (List.mem_of_getElem? (i := 50) rfl)) rfl
theorem kw_t3_51 : (Cond.fieldLink RX6 20 "KeyTurnerModel" "holders" "[I") ∈ WW := wwOf (tb3 (List.mem_of_getElem? (i := 51) rfl)) rfl
theorem kw_t3_52 : (Cond.fieldLink RX6 23 "KeyTurnerModel" "checkers" "[I") ∈ WW := wwOf (tb3 (List.mem_of_getElem? (i := 52) rfl)) rfl
theorem kw_t3_53 : (Cond.fieldLink RX6 26 "KeyTurnerModel" "life" "[I") ∈ WW := wwOf (tb3 (List.mem_of_getElem? (i := 53) rfl)) rfl
theorem kw_t3_54 : (Cond.fieldLink RX6 29 "KeyTurnerModel" "latest" "[I") ∈ WW := wwOf (tb3 (List.mem_of_getElem? (i := 54) rfl)) rfl
theorem kw_t3_55 : (Cond.fieldLink RX6 32 "KeyTurnerModel" "made" "[I") ∈ WW := wwOf (tb3 (List.mem_of_getElem? (i := 55) rfl)) rfl
theorem kw_t3_56 : (Cond.fieldLink RX6 35 "KeyTurnerModel" "step" "[I") ∈ WW := wwOf (tb3 (List.mem_of_getElem? (i := 56) rfl)) rfl
theorem kw_t3_57 : (Cond.fieldLink RX6 38 "KeyTurnerModel" "began" "[I") ∈ WW := wwOf (tb3 (List.mem_of_getElem? (i := 57) rfl)) rfl
theorem kw_t3_58 : (Cond.fieldLink RX6 41 "KeyTurnerModel" "late" "[I") ∈ WW := wwOf (tb3 (List.mem_of_getElem? (i := 58) rfl)) rfl
theorem kw_t3_59 : (Cond.fieldLink RX6 44 "KeyTurnerModel" "lastOld" "[I") ∈ WW := wwOf (tb3 (List.mem_of_getElem? (i := 59) rfl)) rfl
theorem kw_t3_60 : (Cond.fieldLink RX6 47 "KeyTurnerModel" "open" "[I") ∈ WW := wwOf (tb3 (List.mem_of_getElem? (i := 60) rfl)) rfl
theorem kw_t3_61 : (Cond.fieldLink RX6 50 "KeyTurnerModel" "turnOf" "[I") ∈ WW := wwOf (tb3 (List.mem_of_getElem? (i := 61) rfl)) rfl
theorem kw_t3_62 : (Cond.fieldLink RX6 53 "KeyTurnerModel" "isQuick" "[Z") ∈ WW := wwOf (tb3 (List.mem_of_getElem? (i := 62) rfl)) rfl
theorem kw_t3_63 : (Cond.fieldLink RX6 57 "KeyTurnerModel" "needs" "[Z") ∈ WW := wwOf (tb3 (List.mem_of_getElem? (i := 63) rfl)) rfl
theorem kw_t3_64 : (Cond.fieldLink RX6 60 "KeyTurnerModel" "isDown" "[Z") ∈ WW := wwOf (tb3 (List.mem_of_getElem? (i := 64) rfl)) rfl
theorem kw_t3_65 : (Cond.fieldLink RX6 63 "KeyTurnerModel" "has" "[I") ∈ WW := wwOf (tb3 (List.mem_of_getElem? (i := 65) rfl)) rfl
theorem kw_t3_66 : (Cond.fieldLink RX6 66 "KeyTurnerModel" "oneGood" "[I") ∈ WW := wwOf (tb3 (List.mem_of_getElem? (i := 66) rfl)) rfl
theorem kw_t3_67 : (Cond.fieldLink RX6 69 "KeyTurnerModel" "otherGood" "[I") ∈ WW := wwOf (tb3 (List.mem_of_getElem? (i := 67) rfl)) rfl
theorem kw_t3_68 : (Cond.fieldLink RX6 72 "KeyTurnerModel" "delay" "[I") ∈ WW := wwOf (tb3 (List.mem_of_getElem? (i := 68) rfl)) rfl
theorem kw_t3_69 : (Cond.fieldLink RX6 75 "KeyTurnerModel" "oneMade" "[I") ∈ WW := wwOf (tb3 (List.mem_of_getElem? (i := 69) rfl)) rfl
theorem kw_t3_70 : (Cond.fieldLink RX6 78 "KeyTurnerModel" "otherMade" "[I") ∈ WW := wwOf (tb3 (List.mem_of_getElem? (i := 70) rfl)) rfl
theorem kw_t3_71 : (Cond.fieldLink RX6 81 "KeyTurnerModel" "toWhom" "[I") ∈ WW := wwOf (tb3 (List.mem_of_getElem? (i := 71) rfl)) rfl
theorem kw_t3_72 : (Cond.fieldLink RX6 84 "KeyTurnerModel" "ofSecret" "[I") ∈ WW := wwOf (tb3 (List.mem_of_getElem? (i := 72) rfl)) rfl
theorem kw_t3_73 : (Cond.fieldLink RX6 87 "KeyTurnerModel" "comes" "[I") ∈ WW := wwOf (tb3 (List.mem_of_getElem? (i := 73) rfl)) rfl
theorem kw_t3_74 : (Cond.fieldLink RX6 90 "KeyTurnerModel" "version" "[I") ∈ WW := wwOf (tb3 (List.mem_of_getElem? (i := 74) rfl)) rfl
theorem kw_t3_75 : (Cond.fieldLink RX6 93 "KeyTurnerModel" "versionMade" "[I") ∈ WW := wwOf (tb3 (List.mem_of_getElem? (i := 75) rfl)) rfl
theorem kw_t3_76 : (Cond.fieldLink RX6 96 "KeyTurnerModel" "isOnly" "[Z") ∈ WW := wwOf (tb3 (List.mem_of_getElem? (i := 76) rfl)) rfl
theorem kw_t3_77 : (Cond.fieldLink RX6 99 "KeyTurnerModel" "turnSecret" "[I") ∈ WW := wwOf (tb3 (List.mem_of_getElem? (i := 77) rfl)) rfl
theorem kw_t3_78 : (Cond.fieldLink RX6 102 "KeyTurnerModel" "turnVersion" "[I") ∈ WW := wwOf (tb3 (List.mem_of_getElem? (i := 78) rfl)) rfl
theorem kw_t3_79 : (Cond.fieldLink RX6 105 "KeyTurnerModel" "turnBegan" "[I") ∈ WW := wwOf (tb3 (List.mem_of_getElem? (i := 79) rfl)) rfl
theorem kw_t3_80 : (Cond.fieldLink RX6 108 "KeyTurnerModel" "turnOver" "[I") ∈ WW := wwOf (tb3 (List.mem_of_getElem? (i := 80) rfl)) rfl
theorem kw_t3_81 : (Cond.fieldLink RX6 111 "KeyTurnerModel" "turnStolen" "[Z") ∈ WW := wwOf (tb3 (List.mem_of_getElem? (i := 81) rfl)) rfl
theorem kw_t3_82 : (Cond.fieldLink RX6 114 "KeyTurnerModel" "seen" "[Z") ∈ WW := wwOf (tb3 (List.mem_of_getElem? (i := 82) rfl)) rfl
theorem kw_t3_83 : (Cond.fieldLink RX6 117 "KeyTurnerModel" "in" "[Z") ∈ WW := wwOf (tb3 (List.mem_of_getElem? (i := 83) rfl)) rfl
theorem kw_t3_170 : (Cond.superclass RX6 "java/lang/Object") ∈ WW := wwOf (tb3 (List.mem_of_getElem? (i := 170) rfl)) rfl
theorem kw_t3_171 : (Cond.arrayClass Jvm.ClassFile.FieldType.boolean) ∈ WW := wwOf (tb3 (List.mem_of_getElem? (i := 171) rfl)) rfl
theorem kw_t3_172 : (Cond.methodLink RL 23 yX6_secret) ∈ WW := wwOf (tb3 (List.mem_of_getElem? (i := 172) rfl)) rfl
theorem kw_t3_173 : (Cond.instanceMethod yX6_secret) ∈ WW := wwOf (tb3 (List.mem_of_getElem? (i := 173) rfl)) rfl
theorem kw_t3_174 : (Cond.selects RX6 yX6_secret yX6_secret) ∈ WW := wwOf (tb3 (List.mem_of_getElem? (i := 174) rfl)) rfl
theorem kw_t3_175 : (Cond.code yX6_secret prog_8_method_6_code 7 (Option.some Jvm.ClassFile.FieldType.int)) ∈ WW := wwOf (tb3 (List.mem_of_getElem? (i := 175) rfl)) rfl
theorem kw_t3_176 : (Cond.methodLink RX6 126 yX6_isIn) ∈ WW := wwOf (tb3 (List.mem_of_getElem? (i := 176) rfl)) rfl
theorem kw_t3_177 : (Cond.static yX6_isIn) ∈ WW := wwOf (tb3 (List.mem_of_getElem? (i := 177) rfl)) rfl
theorem kw_t3_178 : (Cond.code yX6_isIn prog_8_method_3_code 3 (Option.some Jvm.ClassFile.FieldType.boolean)) ∈ WW := wwOf (tb3 (List.mem_of_getElem? (i := 178) rfl)) rfl
theorem kw_t3_179 : (Cond.methodLink RL 28 yX6_needs) ∈ WW := wwOf (tb3 (List.mem_of_getElem? (i := 179) rfl)) rfl
theorem kw_t3_180 : (Cond.instanceMethod yX6_needs) ∈ WW := wwOf (tb3 (List.mem_of_getElem? (i := 180) rfl)) rfl
theorem kw_t3_181 : (Cond.selects RX6 yX6_needs yX6_needs) ∈ WW := wwOf (tb3 (List.mem_of_getElem? (i := 181) rfl)) rfl
theorem kw_t3_182 : (Cond.code yX6_needs prog_8_method_8_code 4 (Option.some Jvm.ClassFile.FieldType.boolean)) ∈ WW := wwOf (tb3 (List.mem_of_getElem? (i := 182) rfl)) rfl
theorem kw_t3_183 : (Cond.methodLink RX6 133 yX6_isSecret) ∈ WW := wwOf (tb3 (List.mem_of_getElem? (i := 183) rfl)) rfl
theorem kw_t3_185 : (Cond.instanceMethod yX6_isSecret) ∈ WW := wwOf (tb3 (List.mem_of_getElem? (i := 185) rfl)) rfl
theorem kw_t3_186 : (Cond.code yX6_isSecret prog_8_method_4_code 2 (Option.some Jvm.ClassFile.FieldType.boolean)) ∈ WW := wwOf (tb3 (List.mem_of_getElem? (i := 186) rfl)) rfl
theorem kw_t3_187 : (Cond.methodLink RX6 137 yX6_hangsOn) ∈ WW := wwOf (tb3 (List.mem_of_getElem? (i := 187) rfl)) rfl
theorem kw_t3_189 : (Cond.instanceMethod yX6_hangsOn) ∈ WW := wwOf (tb3 (List.mem_of_getElem? (i := 189) rfl)) rfl
theorem kw_t3_190 : (Cond.code yX6_hangsOn prog_8_method_7_code 6 (Option.some Jvm.ClassFile.FieldType.boolean)) ∈ WW := wwOf (tb3 (List.mem_of_getElem? (i := 190) rfl)) rfl
theorem kw_t3_191 : (Cond.methodLink RL 84 yX6_hangs) ∈ WW := wwOf (tb3 (List.mem_of_getElem? (i := 191) rfl)) rfl
theorem kw_t3_192 : (Cond.instanceMethod yX6_hangs) ∈ WW := wwOf (tb3 (List.mem_of_getElem? (i := 192) rfl)) rfl
theorem kw_t3_193 : (Cond.selects RX6 yX6_hangs yX6_hangs) ∈ WW := wwOf (tb3 (List.mem_of_getElem? (i := 193) rfl)) rfl
theorem kw_t3_194 : (Cond.code yX6_hangs prog_8_method_9_code 3 (Option.some Jvm.ClassFile.FieldType.boolean)) ∈ WW := wwOf (tb3 (List.mem_of_getElem? (i := 194) rfl)) rfl
theorem kw_t3_195 : (Cond.methodLink RL 80 yX6_plan) ∈ WW := wwOf (tb3 (List.mem_of_getElem? (i := 195) rfl)) rfl
theorem kw_t3_196 : (Cond.instanceMethod yX6_plan) ∈ WW := wwOf (tb3 (List.mem_of_getElem? (i := 196) rfl)) rfl
theorem kw_t3_197 : (Cond.selects RX6 yX6_plan yX6_plan) ∈ WW := wwOf (tb3 (List.mem_of_getElem? (i := 197) rfl)) rfl
theorem kw_t3_198 : (Cond.code yX6_plan prog_8_method_10_code 7 (Option.some Jvm.ClassFile.FieldType.int)) ∈ WW := wwOf (tb3 (List.mem_of_getElem? (i := 198) rfl)) rfl
theorem kw_t3_199 : (Cond.methodLink RL 33 yX6_delay) ∈ WW := wwOf (tb3 (List.mem_of_getElem? (i := 199) rfl)) rfl
theorem kw_t3_200 : (Cond.instanceMethod yX6_delay) ∈ WW := wwOf (tb3 (List.mem_of_getElem? (i := 200) rfl)) rfl
theorem kw_t3_201 : (Cond.selects RX6 yX6_delay yX6_delay) ∈ WW := wwOf (tb3 (List.mem_of_getElem? (i := 201) rfl)) rfl
theorem kw_t3_202 : (Cond.code yX6_delay prog_8_method_11_code 3 (Option.some Jvm.ClassFile.FieldType.boolean)) ∈ WW := wwOf (tb3 (List.mem_of_getElem? (i := 202) rfl)) rfl
theorem kw_t3_203 : (Cond.methodLink RL 37 yX6_quiet) ∈ WW := wwOf (tb3 (List.mem_of_getElem? (i := 203) rfl)) rfl
theorem kw_t3_204 : (Cond.instanceMethod yX6_quiet) ∈ WW := wwOf (tb3 (List.mem_of_getElem? (i := 204) rfl)) rfl
theorem kw_t3_205 : (Cond.selects RX6 yX6_quiet yX6_quiet) ∈ WW := wwOf (tb3 (List.mem_of_getElem? (i := 205) rfl)) rfl
theorem kw_t3_206 : (Cond.code yX6_quiet prog_8_method_12_code 3 (Option.some Jvm.ClassFile.FieldType.boolean)) ∈ WW := wwOf (tb3 (List.mem_of_getElem? (i := 206) rfl)) rfl
theorem kw_t3_207 : (Cond.methodLink RL 42 yX6_down) ∈ WW := wwOf (tb3 (List.mem_of_getElem? (i := 207) rfl)) rfl
theorem kw_t3_208 : (Cond.instanceMethod yX6_down) ∈ WW := wwOf (tb3 (List.mem_of_getElem? (i := 208) rfl)) rfl
theorem kw_t3_209 : (Cond.selects RX6 yX6_down yX6_down) ∈ WW := wwOf (tb3 (List.mem_of_getElem? (i := 209) rfl)) rfl
theorem kw_t3_210 : (Cond.code yX6_down prog_8_method_13_code 3 (Option.some Jvm.ClassFile.FieldType.boolean)) ∈ WW := wwOf (tb3 (List.mem_of_getElem? (i := 210) rfl)) rfl
theorem kw_t3_211 : (Cond.methodLink RL 55 yX6_tick) ∈ WW := wwOf (tb3 (List.mem_of_getElem? (i := 211) rfl)) rfl
theorem kw_t3_212 : (Cond.instanceMethod yX6_tick) ∈ WW := wwOf (tb3 (List.mem_of_getElem? (i := 212) rfl)) rfl
theorem kw_t3_213 : (Cond.selects RX6 yX6_tick yX6_tick) ∈ WW := wwOf (tb3 (List.mem_of_getElem? (i := 213) rfl)) rfl
theorem kw_t3_214 : (Cond.code yX6_tick prog_8_method_21_code 4 (Option.some Jvm.ClassFile.FieldType.int)) ∈ WW := wwOf (tb3 (List.mem_of_getElem? (i := 214) rfl)) rfl
theorem kw_t3_215 : (Cond.constant RX6 172 (100000 : Int32)) ∈ WW := wwOf (tb3 (List.mem_of_getElem? (i := 215) rfl)) rfl
theorem kw_t3_216 : (Cond.methodLink RX6 173 yX6_take) ∈ WW := wwOf (tb3 (List.mem_of_getElem? (i := 216) rfl)) rfl
theorem kw_t3_218 : (Cond.instanceMethod yX6_take) ∈ WW := wwOf (tb3 (List.mem_of_getElem? (i := 218) rfl)) rfl
theorem kw_t3_219 : (Cond.code yX6_take prog_8_method_17_code 4 (Option.none : Option Jvm.ClassFile.FieldType)) ∈ WW := wwOf (tb3 (List.mem_of_getElem? (i := 219) rfl)) rfl
theorem kw_t3_220 : (Cond.methodLink RX6 157 yX6_act) ∈ WW := wwOf (tb3 (List.mem_of_getElem? (i := 220) rfl)) rfl
theorem kw_t3_222 : (Cond.instanceMethod yX6_act) ∈ WW := wwOf (tb3 (List.mem_of_getElem? (i := 222) rfl)) rfl
theorem kw_t3_223 : (Cond.code yX6_act prog_8_method_16_code 4 (Option.none : Option Jvm.ClassFile.FieldType)) ∈ WW := wwOf (tb3 (List.mem_of_getElem? (i := 223) rfl)) rfl
theorem kw_t3_224 : (Cond.methodLink RX6 176 yX6_goesOn) ∈ WW := wwOf (tb3 (List.mem_of_getElem? (i := 224) rfl)) rfl
theorem kw_t3_226 : (Cond.instanceMethod yX6_goesOn) ∈ WW := wwOf (tb3 (List.mem_of_getElem? (i := 226) rfl)) rfl
theorem kw_t3_227 : (Cond.code yX6_goesOn prog_8_method_20_code 3 (Option.none : Option Jvm.ClassFile.FieldType)) ∈ WW := wwOf (tb3 (List.mem_of_getElem? (i := 227) rfl)) rfl
theorem kw_t3_228 : (Cond.methodLink RX6 161 yX6_isOver) ∈ WW := wwOf (tb3 (List.mem_of_getElem? (i := 228) rfl)) rfl
theorem kw_t3_230 : (Cond.instanceMethod yX6_isOver) ∈ WW := wwOf (tb3 (List.mem_of_getElem? (i := 230) rfl)) rfl
theorem kw_t3_231 : (Cond.code yX6_isOver prog_8_method_18_code 2 (Option.some Jvm.ClassFile.FieldType.boolean)) ∈ WW := wwOf (tb3 (List.mem_of_getElem? (i := 231) rfl)) rfl
theorem kw_t3_232 : (Cond.methodLink RX6 164 yX6_next) ∈ WW := wwOf (tb3 (List.mem_of_getElem? (i := 232) rfl)) rfl
theorem kw_t3_234 : (Cond.instanceMethod yX6_next) ∈ WW := wwOf (tb3 (List.mem_of_getElem? (i := 234) rfl)) rfl
theorem kw_t3_235 : (Cond.code yX6_next prog_8_method_19_code 2 (Option.some Jvm.ClassFile.FieldType.int)) ∈ WW := wwOf (tb3 (List.mem_of_getElem? (i := 235) rfl)) rfl
theorem kw_t3_236 : (Cond.methodLink RX6 168 yX6_begins) ∈ WW := wwOf (tb3 (List.mem_of_getElem? (i := 236) rfl)) rfl
theorem kw_t3_238 : (Cond.instanceMethod yX6_begins) ∈ WW := wwOf (tb3 (List.mem_of_getElem? (i := 238) rfl)) rfl
theorem kw_t3_239 : (Cond.code yX6_begins prog_8_method_15_code 4 (Option.none : Option Jvm.ClassFile.FieldType)) ∈ WW := wwOf (tb3 (List.mem_of_getElem? (i := 239) rfl)) rfl
theorem kw_t4_0 : (Cond.methodLink RX6 150 yX6_isOf) ∈ WW := wwOf (tb4 (List.mem_of_getElem? (i := 0) rfl)) rfl
theorem kw_t4_1 : (Cond.static yX6_isOf) ∈ WW := wwOf (tb4 (List.mem_of_getElem? (i := 1) rfl)) rfl
theorem kw_t4_2 : (Cond.code yX6_isOf prog_8_method_5_code 2 (Option.some Jvm.ClassFile.FieldType.boolean)) ∈ WW := wwOf (tb4 (List.mem_of_getElem? (i := 2) rfl)) rfl
theorem kw_t4_3 : (Cond.methodLink RX6 153 yX6_write) ∈ WW := wwOf (tb4 (List.mem_of_getElem? (i := 3) rfl)) rfl
theorem kw_t4_5 : (Cond.instanceMethod yX6_write) ∈ WW := wwOf (tb4 (List.mem_of_getElem? (i := 5) rfl)) rfl
theorem kw_t4_6 : (Cond.code yX6_write prog_8_method_14_code 4 (Option.none : Option Jvm.ClassFile.FieldType)) ∈ WW := wwOf (tb4 (List.mem_of_getElem? (i := 6) rfl)) rfl
theorem kw_t4_7 : (Cond.methodLink RX6 144 Lib.Math.max.name) ∈ WW := wwOf (tb4 (List.mem_of_getElem? (i := 7) rfl)) rfl
theorem kw_t4_8 : (Cond.methodLink RL 47 yX6_turn) ∈ WW := wwOf (tb4 (List.mem_of_getElem? (i := 8) rfl)) rfl
theorem kw_t4_9 : (Cond.instanceMethod yX6_turn) ∈ WW := wwOf (tb4 (List.mem_of_getElem? (i := 9) rfl)) rfl
theorem kw_t4_10 : (Cond.selects RX6 yX6_turn yX6_turn) ∈ WW := wwOf (tb4 (List.mem_of_getElem? (i := 10) rfl)) rfl
theorem kw_t4_11 : (Cond.code yX6_turn prog_8_method_23_code 3 (Option.some Jvm.ClassFile.FieldType.int)) ∈ WW := wwOf (tb4 (List.mem_of_getElem? (i := 11) rfl)) rfl
theorem kw_t4_12 : (Cond.methodLink RX6 182 yX6_start) ∈ WW := wwOf (tb4 (List.mem_of_getElem? (i := 12) rfl)) rfl
theorem kw_t4_14 : (Cond.instanceMethod yX6_start) ∈ WW := wwOf (tb4 (List.mem_of_getElem? (i := 14) rfl)) rfl
theorem kw_t4_15 : (Cond.code yX6_start prog_8_method_22_code 3 (Option.none : Option Jvm.ClassFile.FieldType)) ∈ WW := wwOf (tb4 (List.mem_of_getElem? (i := 15) rfl)) rfl
theorem kw_t4_16 : (Cond.methodLink RL 51 yX6_stolen) ∈ WW := wwOf (tb4 (List.mem_of_getElem? (i := 16) rfl)) rfl
theorem kw_t4_17 : (Cond.instanceMethod yX6_stolen) ∈ WW := wwOf (tb4 (List.mem_of_getElem? (i := 17) rfl)) rfl
theorem kw_t4_18 : (Cond.selects RX6 yX6_stolen yX6_stolen) ∈ WW := wwOf (tb4 (List.mem_of_getElem? (i := 18) rfl)) rfl
theorem kw_t4_19 : (Cond.code yX6_stolen prog_8_method_24_code 2 (Option.some Jvm.ClassFile.FieldType.int)) ∈ WW := wwOf (tb4 (List.mem_of_getElem? (i := 19) rfl)) rfl
theorem kw_t4_20 : (Cond.methodLink RL 60 yX6_ask) ∈ WW := wwOf (tb4 (List.mem_of_getElem? (i := 20) rfl)) rfl
theorem kw_t4_21 : (Cond.instanceMethod yX6_ask) ∈ WW := wwOf (tb4 (List.mem_of_getElem? (i := 21) rfl)) rfl
theorem kw_t4_22 : (Cond.selects RX6 yX6_ask yX6_ask) ∈ WW := wwOf (tb4 (List.mem_of_getElem? (i := 22) rfl)) rfl
theorem kw_t4_23 : (Cond.code yX6_ask prog_8_method_29_code 4 (Option.some Jvm.ClassFile.FieldType.int)) ∈ WW := wwOf (tb4 (List.mem_of_getElem? (i := 23) rfl)) rfl
theorem kw_t4_24 : (Cond.methodLink RX6 195 yX6_isHolder) ∈ WW := wwOf (tb4 (List.mem_of_getElem? (i := 24) rfl)) rfl
theorem kw_t4_26 : (Cond.instanceMethod yX6_isHolder) ∈ WW := wwOf (tb4 (List.mem_of_getElem? (i := 26) rfl)) rfl
theorem kw_t4_27 : (Cond.code yX6_isHolder prog_8_method_28_code 3 (Option.some Jvm.ClassFile.FieldType.boolean)) ∈ WW := wwOf (tb4 (List.mem_of_getElem? (i := 27) rfl)) rfl
theorem kw_t4_28 : (Cond.methodLink RX6 198 yX6_isChecker) ∈ WW := wwOf (tb4 (List.mem_of_getElem? (i := 28) rfl)) rfl
theorem kw_t4_30 : (Cond.instanceMethod yX6_isChecker) ∈ WW := wwOf (tb4 (List.mem_of_getElem? (i := 30) rfl)) rfl
theorem kw_t4_31 : (Cond.code yX6_isChecker prog_8_method_27_code 3 (Option.some Jvm.ClassFile.FieldType.boolean)) ∈ WW := wwOf (tb4 (List.mem_of_getElem? (i := 31) rfl)) rfl
theorem kw_t4_32 : (Cond.methodLink RX6 201 yX6_asks) ∈ WW := wwOf (tb4 (List.mem_of_getElem? (i := 32) rfl)) rfl
theorem kw_t4_34 : (Cond.instanceMethod yX6_asks) ∈ WW := wwOf (tb4 (List.mem_of_getElem? (i := 34) rfl)) rfl
theorem kw_t4_35 : (Cond.code yX6_asks prog_8_method_26_code 7 (Option.some Jvm.ClassFile.FieldType.int)) ∈ WW := wwOf (tb4 (List.mem_of_getElem? (i := 35) rfl)) rfl
theorem kw_t4_36 : (Cond.methodLink RX6 186 yX6_isGood) ∈ WW := wwOf (tb4 (List.mem_of_getElem? (i := 36) rfl)) rfl
theorem kw_t4_38 : (Cond.instanceMethod yX6_isGood) ∈ WW := wwOf (tb4 (List.mem_of_getElem? (i := 38) rfl)) rfl
theorem kw_t4_39 : (Cond.code yX6_isGood prog_8_method_25_code 4 (Option.some Jvm.ClassFile.FieldType.boolean)) ∈ WW := wwOf (tb4 (List.mem_of_getElem? (i := 39) rfl)) rfl
theorem kw_t4_40 : (Cond.methodLink RL 64 yX6_stranger) ∈ WW := wwOf (tb4 (List.mem_of_getElem? (i := 40) rfl)) rfl
theorem kw_t4_41 : (Cond.instanceMethod yX6_stranger) ∈ WW := wwOf (tb4 (List.mem_of_getElem? (i := 41) rfl)) rfl
theorem kw_t4_42 : (Cond.selects RX6 yX6_stranger yX6_stranger) ∈ WW := wwOf (tb4 (List.mem_of_getElem? (i := 42) rfl)) rfl
theorem kw_t4_43 : (Cond.code yX6_stranger prog_8_method_30_code 5 (Option.some Jvm.ClassFile.FieldType.int)) ∈ WW := wwOf (tb4 (List.mem_of_getElem? (i := 43) rfl)) rfl
theorem kw_t4_44 : (Cond.methodLink RL 68 yX6_told) ∈ WW := wwOf (tb4 (List.mem_of_getElem? (i := 44) rfl)) rfl
theorem kw_t4_45 : (Cond.instanceMethod yX6_told) ∈ WW := wwOf (tb4 (List.mem_of_getElem? (i := 45) rfl)) rfl
theorem kw_t4_46 : (Cond.selects RX6 yX6_told yX6_told) ∈ WW := wwOf (tb4 (List.mem_of_getElem? (i := 46) rfl)) rfl
theorem kw_t4_47 : (Cond.code yX6_told prog_8_method_33_code 3 (Option.some Jvm.ClassFile.FieldType.int)) ∈ WW := wwOf (tb4 (List.mem_of_getElem? (i := 47) rfl)) rfl
theorem kw_t4_48 : (Cond.methodLink RX6 208 yX6_age) ∈ WW := wwOf (tb4 (List.mem_of_getElem? (i := 48) rfl)) rfl
theorem kw_t4_50 : (Cond.instanceMethod yX6_age) ∈ WW := wwOf (tb4 (List.mem_of_getElem? (i := 50) rfl)) rfl
theorem kw_t4_51 : (Cond.code yX6_age prog_8_method_31_code 5 (Option.some Jvm.ClassFile.FieldType.int)) ∈ WW := wwOf (tb4 (List.mem_of_getElem? (i := 51) rfl)) rfl
theorem kw_t4_52 : (Cond.methodLink RX6 205 Lib.Math.min.name) ∈ WW := wwOf (tb4 (List.mem_of_getElem? (i := 52) rfl)) rfl
theorem kw_t4_53 : (Cond.methodLink RX6 211 yX6_lockedOut) ∈ WW := wwOf (tb4 (List.mem_of_getElem? (i := 53) rfl)) rfl
theorem kw_t4_55 : (Cond.instanceMethod yX6_lockedOut) ∈ WW := wwOf (tb4 (List.mem_of_getElem? (i := 55) rfl)) rfl
theorem kw_t4_56 : (Cond.code yX6_lockedOut prog_8_method_32_code 6 (Option.some Jvm.ClassFile.FieldType.int)) ∈ WW := wwOf (tb4 (List.mem_of_getElem? (i := 56) rfl)) rfl
theorem kw_t4_57 : (Cond.methodLink RL 72 yX6_has) ∈ WW := wwOf (tb4 (List.mem_of_getElem? (i := 57) rfl)) rfl
theorem kw_t4_58 : (Cond.instanceMethod yX6_has) ∈ WW := wwOf (tb4 (List.mem_of_getElem? (i := 58) rfl)) rfl
theorem kw_t4_59 : (Cond.selects RX6 yX6_has yX6_has) ∈ WW := wwOf (tb4 (List.mem_of_getElem? (i := 59) rfl)) rfl
theorem kw_t4_60 : (Cond.code yX6_has prog_8_method_34_code 3 (Option.some Jvm.ClassFile.FieldType.int)) ∈ WW := wwOf (tb4 (List.mem_of_getElem? (i := 60) rfl)) rfl
theorem kw_t4_61 : (Cond.methodLink RL 76 yX6_good) ∈ WW := wwOf (tb4 (List.mem_of_getElem? (i := 61) rfl)) rfl
theorem kw_t4_62 : (Cond.instanceMethod yX6_good) ∈ WW := wwOf (tb4 (List.mem_of_getElem? (i := 62) rfl)) rfl
theorem kw_t4_63 : (Cond.selects RX6 yX6_good yX6_good) ∈ WW := wwOf (tb4 (List.mem_of_getElem? (i := 63) rfl)) rfl
theorem kw_t4_64 : (Cond.code yX6_good prog_8_method_35_code 4 (Option.some Jvm.ClassFile.FieldType.int)) ∈ WW := wwOf (tb4 (List.mem_of_getElem? (i := 64) rfl)) rfl
theorem kw_t4_65 : (Cond.methodLink RL 90 yX6_turned) ∈ WW := wwOf (tb4 (List.mem_of_getElem? (i := 65) rfl)) rfl
theorem kw_t4_66 : (Cond.instanceMethod yX6_turned) ∈ WW := wwOf (tb4 (List.mem_of_getElem? (i := 66) rfl)) rfl
theorem kw_t4_67 : (Cond.selects RX6 yX6_turned yX6_turned) ∈ WW := wwOf (tb4 (List.mem_of_getElem? (i := 67) rfl)) rfl
theorem kw_t4_68 : (Cond.code yX6_turned prog_8_method_36_code 3 (Option.some Jvm.ClassFile.FieldType.int)) ∈ WW := wwOf (tb4 (List.mem_of_getElem? (i := 68) rfl)) rfl
theorem kw_t4_69 : (Cond.methodLink RL 94 yX6_count) ∈ WW := wwOf (tb4 (List.mem_of_getElem? (i := 69) rfl)) rfl
theorem kw_t4_70 : (Cond.instanceMethod yX6_count) ∈ WW := wwOf (tb4 (List.mem_of_getElem? (i := 70) rfl)) rfl
theorem kw_t4_71 : (Cond.selects RX6 yX6_count yX6_count) ∈ WW := wwOf (tb4 (List.mem_of_getElem? (i := 71) rfl)) rfl
theorem kw_t4_72 : (Cond.code yX6_count prog_8_method_37_code 4 (Option.some Jvm.ClassFile.FieldType.int)) ∈ WW := wwOf (tb4 (List.mem_of_getElem? (i := 72) rfl)) rfl
theorem kw_t4_73 : (Cond.arrayClass Jvm.ClassFile.FieldType.long) ∈ WW := wwOf (tb4 (List.mem_of_getElem? (i := 73) rfl)) rfl
theorem kw_s0_0 : (Cond.selects RX5 yX5_isSecret yX5_isSecret) ∈ WW := wwOf (tbS (List.mem_of_getElem? (i := 0) rfl)) rfl
theorem kw_s0_1 : (Cond.selects RX5 yX5_isHeldUp yX5_isHeldUp) ∈ WW := wwOf (tbS (List.mem_of_getElem? (i := 1) rfl)) rfl
theorem kw_s0_2 : (Cond.selects RX5 yX5_beginTurn yX5_beginTurn) ∈ WW := wwOf (tbS (List.mem_of_getElem? (i := 2) rfl)) rfl
theorem kw_s0_3 : (Cond.selects RX5 yX5_nextStir yX5_nextStir) ∈ WW := wwOf (tbS (List.mem_of_getElem? (i := 3) rfl)) rfl
theorem kw_s0_4 : (Cond.selects RX5 yX5_goOn yX5_goOn) ∈ WW := wwOf (tbS (List.mem_of_getElem? (i := 4) rfl)) rfl
theorem kw_s0_5 : (Cond.selects RX5 yX5_opens yX5_opens) ∈ WW := wwOf (tbS (List.mem_of_getElem? (i := 5) rfl)) rfl
theorem kw_s0_6 : (Cond.selects RX5 yX5_noteAsk yX5_noteAsk) ∈ WW := wwOf (tbS (List.mem_of_getElem? (i := 6) rfl)) rfl
theorem kw_s0_7 : (Cond.selects RX5 yX5_nextOfPlan yX5_nextOfPlan) ∈ WW := wwOf (tbS (List.mem_of_getElem? (i := 7) rfl)) rfl
theorem kw_s0_8 : (Cond.selects RX5 yX5_turnsGoingOn yX5_turnsGoingOn) ∈ WW := wwOf (tbS (List.mem_of_getElem? (i := 8) rfl)) rfl
theorem kw_s0_9 : (Cond.selects RX5 yX5_lettersUnanswered yX5_lettersUnanswered) ∈ WW := wwOf (tbS (List.mem_of_getElem? (i := 9) rfl)) rfl
theorem kw_s0_10 : (Cond.selects RX5 yX5_secretsPastLife yX5_secretsPastLife) ∈ WW := wwOf (tbS (List.mem_of_getElem? (i := 10) rfl)) rfl
theorem kw_s0_11 : (Cond.selects "java/lang/Throwable" (⟨"java/lang/Throwable", "fillInStackTrace", "(I)Ljava/lang/Throwable;"⟩ : MethodName) (⟨"java/lang/Throwable", "fillInStackTrace", "(I)Ljava/lang/Throwable;"⟩ : MethodName)) ∈ WW := wwOf (tbS (List.mem_of_getElem? (i := 11) rfl)) rfl
theorem kw_s0_12 : (Cond.selects RX6 yX6_isSecret yX6_isSecret) ∈ WW := wwOf (tbS (List.mem_of_getElem? (i := 12) rfl)) rfl
theorem kw_s0_13 : (Cond.selects RX6 yX6_hangsOn yX6_hangsOn) ∈ WW := wwOf (tbS (List.mem_of_getElem? (i := 13) rfl)) rfl
theorem kw_s0_14 : (Cond.selects RX6 yX6_take yX6_take) ∈ WW := wwOf (tbS (List.mem_of_getElem? (i := 14) rfl)) rfl
theorem kw_s0_15 : (Cond.selects RX6 yX6_act yX6_act) ∈ WW := wwOf (tbS (List.mem_of_getElem? (i := 15) rfl)) rfl
theorem kw_s0_16 : (Cond.selects RX6 yX6_goesOn yX6_goesOn) ∈ WW := wwOf (tbS (List.mem_of_getElem? (i := 16) rfl)) rfl
theorem kw_s0_17 : (Cond.selects RX6 yX6_isOver yX6_isOver) ∈ WW := wwOf (tbS (List.mem_of_getElem? (i := 17) rfl)) rfl
theorem kw_s0_18 : (Cond.selects RX6 yX6_next yX6_next) ∈ WW := wwOf (tbS (List.mem_of_getElem? (i := 18) rfl)) rfl
theorem kw_s0_19 : (Cond.selects RX6 yX6_begins yX6_begins) ∈ WW := wwOf (tbS (List.mem_of_getElem? (i := 19) rfl)) rfl
theorem kw_s0_20 : (Cond.selects RX6 yX6_write yX6_write) ∈ WW := wwOf (tbS (List.mem_of_getElem? (i := 20) rfl)) rfl
theorem kw_s0_21 : (Cond.selects RX6 yX6_start yX6_start) ∈ WW := wwOf (tbS (List.mem_of_getElem? (i := 21) rfl)) rfl
theorem kw_s0_22 : (Cond.selects RX6 yX6_isHolder yX6_isHolder) ∈ WW := wwOf (tbS (List.mem_of_getElem? (i := 22) rfl)) rfl
theorem kw_s0_23 : (Cond.selects RX6 yX6_isChecker yX6_isChecker) ∈ WW := wwOf (tbS (List.mem_of_getElem? (i := 23) rfl)) rfl
theorem kw_s0_24 : (Cond.selects RX6 yX6_asks yX6_asks) ∈ WW := wwOf (tbS (List.mem_of_getElem? (i := 24) rfl)) rfl
theorem kw_s0_25 : (Cond.selects RX6 yX6_isGood yX6_isGood) ∈ WW := wwOf (tbS (List.mem_of_getElem? (i := 25) rfl)) rfl
theorem kw_s0_26 : (Cond.selects RX6 yX6_age yX6_age) ∈ WW := wwOf (tbS (List.mem_of_getElem? (i := 26) rfl)) rfl
theorem kw_s0_27 : (Cond.selects RX6 yX6_lockedOut yX6_lockedOut) ∈ WW := wwOf (tbS (List.mem_of_getElem? (i := 27) rfl)) rfl
theorem lyX0_0 : u_lay RX0 TX0 0 ∈ WW := wwOf (tb1 (List.mem_of_getElem? (i := 138) rfl)) rfl
theorem lyX0_1 : u_lay RX0 TX0 1 ∈ WW := wwOf (tb1 (List.mem_of_getElem? (i := 140) rfl)) rfl
theorem lyX0_2 : u_lay RX0 TX0 2 ∈ WW := wwOf (tb1 (List.mem_of_getElem? (i := 142) rfl)) rfl
theorem lyX0_3 : u_lay RX0 TX0 3 ∈ WW := wwOf (tb1 (List.mem_of_getElem? (i := 144) rfl)) rfl
theorem lyX0_4 : u_lay RX0 TX0 4 ∈ WW := wwOf (tb1 (List.mem_of_getElem? (i := 146) rfl)) rfl
theorem lyX0_5 : u_lay RX0 TX0 5 ∈ WW := wwOf (tb1 (List.mem_of_getElem? (i := 148) rfl)) rfl
theorem lyX0_6 : u_lay RX0 TX0 6 ∈ WW := wwOf (tb1 (List.mem_of_getElem? (i := 150) rfl)) rfl
theorem lyX0_7 : u_lay RX0 TX0 7 ∈ WW := wwOf (tb1 (List.mem_of_getElem? (i := 152) rfl)) rfl
theorem lyX0_8 : u_lay RX0 TX0 8 ∈ WW := wwOf (tb1 (List.mem_of_getElem? (i := 154) rfl)) rfl
theorem inWX0 : ∀ w ∈ u_ws RX0 TX0 9, w ∈ WW := by
  intro w h
  obtain ⟨k, hk, rfl⟩ := List.mem_map.mp h
  have hk := List.mem_range.mp hk
  match k, hk with
  | 0, _ => exact lyX0_0
  | 1, _ => exact lyX0_1
  | 2, _ => exact lyX0_2
  | 3, _ => exact lyX0_3
  | 4, _ => exact lyX0_4
  | 5, _ => exact lyX0_5
  | 6, _ => exact lyX0_6
  | 7, _ => exact lyX0_7
  | 8, _ => exact lyX0_8
  | k + 9, h => exact absurd h (by omega)
theorem lyX1_0 : u_lay RX1 TX1 0 ∈ WW := wwOf (tb1 (List.mem_of_getElem? (i := 64) rfl)) rfl
theorem lyX1_1 : u_lay RX1 TX1 1 ∈ WW := wwOf (tb1 (List.mem_of_getElem? (i := 66) rfl)) rfl
theorem inWX1 : ∀ w ∈ u_ws RX1 TX1 2, w ∈ WW := by
  intro w h
  obtain ⟨k, hk, rfl⟩ := List.mem_map.mp h
  have hk := List.mem_range.mp hk
  match k, hk with
  | 0, _ => exact lyX1_0
  | 1, _ => exact lyX1_1
  | k + 2, h => exact absurd h (by omega)
theorem lyX2_0 : u_lay RX2 TX2 0 ∈ WW := wwOf (tb1 (List.mem_of_getElem? (i := 49) rfl)) rfl
theorem lyX2_1 : u_lay RX2 TX2 1 ∈ WW := wwOf (tb1 (List.mem_of_getElem? (i := 51) rfl)) rfl
theorem inWX2 : ∀ w ∈ u_ws RX2 TX2 2, w ∈ WW := by
  intro w h
  obtain ⟨k, hk, rfl⟩ := List.mem_map.mp h
  have hk := List.mem_range.mp hk
  match k, hk with
  | 0, _ => exact lyX2_0
  | 1, _ => exact lyX2_1
  | k + 2, h => exact absurd h (by omega)
theorem lyX3_0 : u_lay RX3 TX3 0 ∈ WW := wwOf (tb1 (List.mem_of_getElem? (i := 103) rfl)) rfl
theorem lyX3_1 : u_lay RX3 TX3 1 ∈ WW := wwOf (tb1 (List.mem_of_getElem? (i := 105) rfl)) rfl
theorem lyX3_2 : u_lay RX3 TX3 2 ∈ WW := wwOf (tb1 (List.mem_of_getElem? (i := 107) rfl)) rfl
theorem lyX3_3 : u_lay RX3 TX3 3 ∈ WW := wwOf (tb1 (List.mem_of_getElem? (i := 109) rfl)) rfl
theorem lyX3_4 : u_lay RX3 TX3 4 ∈ WW := wwOf (tb1 (List.mem_of_getElem? (i := 111) rfl)) rfl
theorem lyX3_5 : u_lay RX3 TX3 5 ∈ WW := wwOf (tb1 (List.mem_of_getElem? (i := 113) rfl)) rfl
theorem lyX3_6 : u_lay RX3 TX3 6 ∈ WW := wwOf (tb1 (List.mem_of_getElem? (i := 115) rfl)) rfl
theorem lyX3_7 : u_lay RX3 TX3 7 ∈ WW := wwOf (tb1 (List.mem_of_getElem? (i := 117) rfl)) rfl
theorem lyX3_8 : u_lay RX3 TX3 8 ∈ WW := wwOf (tb1 (List.mem_of_getElem? (i := 119) rfl)) rfl
theorem lyX3_9 : u_lay RX3 TX3 9 ∈ WW := wwOf (tb1 (List.mem_of_getElem? (i := 121) rfl)) rfl
theorem inWX3 : ∀ w ∈ u_ws RX3 TX3 10, w ∈ WW := by
  intro w h
  obtain ⟨k, hk, rfl⟩ := List.mem_map.mp h
  have hk := List.mem_range.mp hk
  match k, hk with
  | 0, _ => exact lyX3_0
  | 1, _ => exact lyX3_1
  | 2, _ => exact lyX3_2
  | 3, _ => exact lyX3_3
  | 4, _ => exact lyX3_4
  | 5, _ => exact lyX3_5
  | 6, _ => exact lyX3_6
  | 7, _ => exact lyX3_7
  | 8, _ => exact lyX3_8
  | 9, _ => exact lyX3_9
  | k + 10, h => exact absurd h (by omega)
theorem lyX4_0 : u_lay RX4 TX4 0 ∈ WW := wwOf (tb1 (List.mem_of_getElem? (i := 34) rfl)) rfl
theorem inWX4 : ∀ w ∈ u_ws RX4 TX4 1, w ∈ WW := by
  intro w h
  obtain ⟨k, hk, rfl⟩ := List.mem_map.mp h
  have hk := List.mem_range.mp hk
  match k, hk with
  | 0, _ => exact lyX4_0
  | k + 1, h => exact absurd h (by omega)
theorem lyX5_0 : u_lay RX5 TX5 0 ∈ WW := wwOf (tb1 (List.mem_of_getElem? (i := 168) rfl)) rfl
theorem lyX5_1 : u_lay RX5 TX5 1 ∈ WW := wwOf (tb1 (List.mem_of_getElem? (i := 170) rfl)) rfl
theorem lyX5_2 : u_lay RX5 TX5 2 ∈ WW := wwOf (tb1 (List.mem_of_getElem? (i := 172) rfl)) rfl
theorem lyX5_3 : u_lay RX5 TX5 3 ∈ WW := wwOf (tb1 (List.mem_of_getElem? (i := 174) rfl)) rfl
theorem lyX5_4 : u_lay RX5 TX5 4 ∈ WW := wwOf (tb1 (List.mem_of_getElem? (i := 176) rfl)) rfl
theorem lyX5_5 : u_lay RX5 TX5 5 ∈ WW := wwOf (tb1 (List.mem_of_getElem? (i := 178) rfl)) rfl
theorem lyX5_6 : u_lay RX5 TX5 6 ∈ WW := wwOf (tb1 (List.mem_of_getElem? (i := 180) rfl)) rfl
theorem lyX5_7 : u_lay RX5 TX5 7 ∈ WW := wwOf (tb1 (List.mem_of_getElem? (i := 182) rfl)) rfl
theorem lyX5_8 : u_lay RX5 TX5 8 ∈ WW := wwOf (tb1 (List.mem_of_getElem? (i := 184) rfl)) rfl
theorem lyX5_9 : u_lay RX5 TX5 9 ∈ WW := wwOf (tb1 (List.mem_of_getElem? (i := 186) rfl)) rfl
theorem lyX5_10 : u_lay RX5 TX5 10 ∈ WW := wwOf (tb1 (List.mem_of_getElem? (i := 188) rfl)) rfl
theorem inWX5 : ∀ w ∈ u_ws RX5 TX5 11, w ∈ WW := by
  intro w h
  obtain ⟨k, hk, rfl⟩ := List.mem_map.mp h
  have hk := List.mem_range.mp hk
  match k, hk with
  | 0, _ => exact lyX5_0
  | 1, _ => exact lyX5_1
  | 2, _ => exact lyX5_2
  | 3, _ => exact lyX5_3
  | 4, _ => exact lyX5_4
  | 5, _ => exact lyX5_5
  | 6, _ => exact lyX5_6
  | 7, _ => exact lyX5_7
  | 8, _ => exact lyX5_8
  | 9, _ => exact lyX5_9
  | 10, _ => exact lyX5_10
  | k + 11, h => exact absurd h (by omega)
theorem lyX6_0 : u_lay RX6 TX6 0 ∈ WW := wwOf (tb3 (List.mem_of_getElem? (i := 84) rfl)) rfl
theorem lyX6_1 : u_lay RX6 TX6 1 ∈ WW := wwOf (tb3 (List.mem_of_getElem? (i := 86) rfl)) rfl
theorem lyX6_2 : u_lay RX6 TX6 2 ∈ WW := wwOf (tb3 (List.mem_of_getElem? (i := 88) rfl)) rfl
theorem lyX6_3 : u_lay RX6 TX6 3 ∈ WW := wwOf (tb3 (List.mem_of_getElem? (i := 90) rfl)) rfl
theorem lyX6_4 : u_lay RX6 TX6 4 ∈ WW := wwOf (tb3 (List.mem_of_getElem? (i := 92) rfl)) rfl
theorem lyX6_5 : u_lay RX6 TX6 5 ∈ WW := wwOf (tb3 (List.mem_of_getElem? (i := 94) rfl)) rfl
theorem lyX6_6 : u_lay RX6 TX6 6 ∈ WW := wwOf (tb3 (List.mem_of_getElem? (i := 96) rfl)) rfl
theorem lyX6_7 : u_lay RX6 TX6 7 ∈ WW := wwOf (tb3 (List.mem_of_getElem? (i := 98) rfl)) rfl
theorem lyX6_8 : u_lay RX6 TX6 8 ∈ WW := wwOf (tb3 (List.mem_of_getElem? (i := 100) rfl)) rfl
theorem lyX6_9 : u_lay RX6 TX6 9 ∈ WW := wwOf (tb3 (List.mem_of_getElem? (i := 102) rfl)) rfl
theorem lyX6_10 : u_lay RX6 TX6 10 ∈ WW := wwOf (tb3 (List.mem_of_getElem? (i := 104) rfl)) rfl
theorem lyX6_11 : u_lay RX6 TX6 11 ∈ WW := wwOf (tb3 (List.mem_of_getElem? (i := 106) rfl)) rfl
theorem lyX6_12 : u_lay RX6 TX6 12 ∈ WW := wwOf (tb3 (List.mem_of_getElem? (i := 108) rfl)) rfl
theorem lyX6_13 : u_lay RX6 TX6 13 ∈ WW := wwOf (tb3 (List.mem_of_getElem? (i := 110) rfl)) rfl
theorem lyX6_14 : u_lay RX6 TX6 14 ∈ WW := wwOf (tb3 (List.mem_of_getElem? (i := 112) rfl)) rfl
theorem lyX6_15 : u_lay RX6 TX6 15 ∈ WW := wwOf (tb3 (List.mem_of_getElem? (i := 114) rfl)) rfl
theorem lyX6_16 : u_lay RX6 TX6 16 ∈ WW := wwOf (tb3 (List.mem_of_getElem? (i := 116) rfl)) rfl
theorem lyX6_17 : u_lay RX6 TX6 17 ∈ WW := wwOf (tb3 (List.mem_of_getElem? (i := 118) rfl)) rfl
theorem lyX6_18 : u_lay RX6 TX6 18 ∈ WW := wwOf (tb3 (List.mem_of_getElem? (i := 120) rfl)) rfl
theorem lyX6_19 : u_lay RX6 TX6 19 ∈ WW := wwOf (tb3 (List.mem_of_getElem? (i := 122) rfl)) rfl
theorem lyX6_20 : u_lay RX6 TX6 20 ∈ WW := wwOf (tb3 (List.mem_of_getElem? (i := 124) rfl)) rfl
theorem lyX6_21 : u_lay RX6 TX6 21 ∈ WW := wwOf (tb3 (List.mem_of_getElem? (i := 126) rfl)) rfl
theorem lyX6_22 : u_lay RX6 TX6 22 ∈ WW := wwOf (tb3 (List.mem_of_getElem? (i := 128) rfl)) rfl
theorem lyX6_23 : u_lay RX6 TX6 23 ∈ WW := wwOf (tb3 (List.mem_of_getElem? (i := 130) rfl)) rfl
theorem lyX6_24 : u_lay RX6 TX6 24 ∈ WW := wwOf (tb3 (List.mem_of_getElem? (i := 132) rfl)) rfl
theorem lyX6_25 : u_lay RX6 TX6 25 ∈ WW := wwOf (tb3 (List.mem_of_getElem? (i := 134) rfl)) rfl
theorem lyX6_26 : u_lay RX6 TX6 26 ∈ WW := wwOf (tb3 (List.mem_of_getElem? (i := 136) rfl)) rfl
theorem lyX6_27 : u_lay RX6 TX6 27 ∈ WW := wwOf (tb3 (List.mem_of_getElem? (i := 138) rfl)) rfl
theorem lyX6_28 : u_lay RX6 TX6 28 ∈ WW := wwOf (tb3 (List.mem_of_getElem? (i := 140) rfl)) rfl
theorem lyX6_29 : u_lay RX6 TX6 29 ∈ WW := wwOf (tb3 (List.mem_of_getElem? (i := 142) rfl)) rfl
theorem lyX6_30 : u_lay RX6 TX6 30 ∈ WW := wwOf (tb3 (List.mem_of_getElem? (i := 144) rfl)) rfl
theorem lyX6_31 : u_lay RX6 TX6 31 ∈ WW := wwOf (tb3 (List.mem_of_getElem? (i := 146) rfl)) rfl
theorem lyX6_32 : u_lay RX6 TX6 32 ∈ WW := wwOf (tb3 (List.mem_of_getElem? (i := 148) rfl)) rfl
theorem lyX6_33 : u_lay RX6 TX6 33 ∈ WW := wwOf (tb3 (List.mem_of_getElem? (i := 150) rfl)) rfl
theorem lyX6_34 : u_lay RX6 TX6 34 ∈ WW := wwOf (tb3 (List.mem_of_getElem? (i := 152) rfl)) rfl
theorem lyX6_35 : u_lay RX6 TX6 35 ∈ WW := wwOf (tb3 (List.mem_of_getElem? (i := 154) rfl)) rfl
theorem lyX6_36 : u_lay RX6 TX6 36 ∈ WW := wwOf (tb3 (List.mem_of_getElem? (i := 156) rfl)) rfl
theorem lyX6_37 : u_lay RX6 TX6 37 ∈ WW := wwOf (tb3 (List.mem_of_getElem? (i := 158) rfl)) rfl
theorem lyX6_38 : u_lay RX6 TX6 38 ∈ WW := wwOf (tb3 (List.mem_of_getElem? (i := 160) rfl)) rfl
theorem lyX6_39 : u_lay RX6 TX6 39 ∈ WW := wwOf (tb3 (List.mem_of_getElem? (i := 162) rfl)) rfl
theorem lyX6_40 : u_lay RX6 TX6 40 ∈ WW := wwOf (tb3 (List.mem_of_getElem? (i := 164) rfl)) rfl
theorem lyX6_41 : u_lay RX6 TX6 41 ∈ WW := wwOf (tb3 (List.mem_of_getElem? (i := 166) rfl)) rfl
theorem lyX6_42 : u_lay RX6 TX6 42 ∈ WW := wwOf (tb3 (List.mem_of_getElem? (i := 168) rfl)) rfl
theorem inWX6 : ∀ w ∈ u_ws RX6 TX6 43, w ∈ WW := by
  intro w h
  obtain ⟨k, hk, rfl⟩ := List.mem_map.mp h
  have hk := List.mem_range.mp hk
  match k, hk with
  | 0, _ => exact lyX6_0
  | 1, _ => exact lyX6_1
  | 2, _ => exact lyX6_2
  | 3, _ => exact lyX6_3
  | 4, _ => exact lyX6_4
  | 5, _ => exact lyX6_5
  | 6, _ => exact lyX6_6
  | 7, _ => exact lyX6_7
  | 8, _ => exact lyX6_8
  | 9, _ => exact lyX6_9
  | 10, _ => exact lyX6_10
  | 11, _ => exact lyX6_11
  | 12, _ => exact lyX6_12
  | 13, _ => exact lyX6_13
  | 14, _ => exact lyX6_14
  | 15, _ => exact lyX6_15
  | 16, _ => exact lyX6_16
  | 17, _ => exact lyX6_17
  | 18, _ => exact lyX6_18
  | 19, _ => exact lyX6_19
  | 20, _ => exact lyX6_20
  | 21, _ => exact lyX6_21
  | 22, _ => exact lyX6_22
  | 23, _ => exact lyX6_23
  | 24, _ => exact lyX6_24
  | 25, _ => exact lyX6_25
  | 26, _ => exact lyX6_26
  | 27, _ => exact lyX6_27
  | 28, _ => exact lyX6_28
  | 29, _ => exact lyX6_29
  | 30, _ => exact lyX6_30
  | 31, _ => exact lyX6_31
  | 32, _ => exact lyX6_32
  | 33, _ => exact lyX6_33
  | 34, _ => exact lyX6_34
  | 35, _ => exact lyX6_35
  | 36, _ => exact lyX6_36
  | 37, _ => exact lyX6_37
  | 38, _ => exact lyX6_38
  | 39, _ => exact lyX6_39
  | 40, _ => exact lyX6_40
  | 41, _ => exact lyX6_41
  | 42, _ => exact lyX6_42
  | k + 43, h => exact absurd h (by omega)
