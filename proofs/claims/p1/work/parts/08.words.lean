def WW : List Cond := lw_tbl.filter goodWord
theorem wwOf {w : Cond} (h : w ∈ lw_tbl) (g : goodWord w = true) : w ∈ WW := List.mem_filter.mpr ⟨h, g⟩
theorem ww_tbl : ∀ w ∈ WW, w ∈ lw_tbl := fun _ h => (List.mem_filter.mp h).1
theorem ww_good : ∀ w ∈ WW, goodWord w = true := fun _ h => (List.mem_filter.mp h).2
theorem tbS {w : Cond} (h : w ∈ k2_sels lw_privs) : w ∈ lw_tbl := List.mem_append_left _ h
theorem tb1 {w : Cond} (h : w ∈ tables_1_1) : w ∈ lw_tbl := List.mem_append_right _ (List.mem_append_left _ h)
theorem tb2 {w : Cond} (h : w ∈ tables_1_2) : w ∈ lw_tbl := List.mem_append_right _ (List.mem_append_right _ (List.mem_append_left _ h))
theorem tb3 {w : Cond} (h : w ∈ tables_1_3) : w ∈ lw_tbl := List.mem_append_right _ (List.mem_append_right _ (List.mem_append_right _ (List.mem_append_left _ h)))
theorem tb4 {w : Cond} (h : w ∈ tables_1_4) : w ∈ lw_tbl := List.mem_append_right _ (List.mem_append_right _ (List.mem_append_right _ (List.mem_append_right _ (h))))
theorem kw_0 : (Cond.fieldLink RX5 42 "KeyTurner" "secretCount" "I") ∈ WW := wwOf (tb1 (List.mem_of_getElem? (i := 162) rfl)) rfl
theorem kw_1 : (Cond.fieldLink RX2 15 "KeyTurner$People" "downBits" "I") ∈ WW := wwOf (tb1 (List.mem_of_getElem? (i := 47) rfl)) rfl
theorem kw_2 : (Cond.fieldLink RX1 15 "KeyTurner$Log" "begun" "I") ∈ WW := wwOf (tb1 (List.mem_of_getElem? (i := 62) rfl)) rfl
theorem kw_3 : (Cond.fieldLink RX6 123 "KeyTurnerModel" "secrets" "I") ∈ WW := wwOf (tb3 (List.mem_of_getElem? (i := 43) rfl)) rfl
theorem kw_4 : (Cond.fieldLink RX6 120 "KeyTurnerModel" "thrown" "I") ∈ WW := wwOf (tb3 (List.mem_of_getElem? (i := 41) rfl)) rfl
theorem kw_5 : (Cond.code yX5_isSecret prog_1_method_20_code 2 (Option.some Jvm.ClassFile.FieldType.boolean)) ∈ WW := wwOf (tb1 (List.mem_of_getElem? (i := 206) rfl)) rfl
theorem kw_6 : (Cond.methodLink RX5 70 yX5_isSecret) ∈ WW := wwOf (tb1 (List.mem_of_getElem? (i := 203) rfl)) rfl
theorem kw_7 : (Cond.instanceMethod yX5_isSecret) ∈ WW := wwOf (tb1 (List.mem_of_getElem? (i := 205) rfl)) rfl
theorem kw_8 : (Cond.selects RX5 yX5_isSecret yX5_isSecret) ∈ WW := wwOf (tbS (List.mem_of_getElem? (i := 0) rfl)) rfl
theorem kw_9 : (Cond.initialized RX5) ∈ WW := wwOf (tb1 (List.mem_of_getElem? (i := 1) rfl)) rfl
theorem kw_10 : (Cond.fieldLink RX5 46 "KeyTurner" "now" "I") ∈ WW := wwOf (tb1 (List.mem_of_getElem? (i := 163) rfl)) rfl
theorem kw_11 : (Cond.fieldLink RX5 38 "KeyTurner" "log" "LKeyTurner$Log;") ∈ WW := wwOf (tb1 (List.mem_of_getElem? (i := 161) rfl)) rfl
theorem kw_12 : (Cond.fieldLink RX5 199 "KeyTurner$Log" "begun" "I") ∈ WW := wwOf (tb1 (List.mem_of_getElem? (i := 63) rfl)) rfl
theorem kw_13 : (Cond.code yX5_turnsGoingOn prog_1_method_28_code 3 (Option.some Jvm.ClassFile.FieldType.int)) ∈ WW := wwOf (tb2 (List.mem_of_getElem? (i := 191) rfl)) rfl
theorem kw_14 : (Cond.methodLink RX5 202 yX5_turnsGoingOn) ∈ WW := wwOf (tb2 (List.mem_of_getElem? (i := 188) rfl)) rfl
theorem kw_15 : (Cond.instanceMethod yX5_turnsGoingOn) ∈ WW := wwOf (tb2 (List.mem_of_getElem? (i := 190) rfl)) rfl
theorem kw_16 : (Cond.selects RX5 yX5_turnsGoingOn yX5_turnsGoingOn) ∈ WW := wwOf (tbS (List.mem_of_getElem? (i := 8) rfl)) rfl
theorem kw_17 : (Cond.code yX5_lettersUnanswered prog_1_method_29_code 3 (Option.some Jvm.ClassFile.FieldType.int)) ∈ WW := wwOf (tb2 (List.mem_of_getElem? (i := 195) rfl)) rfl
theorem kw_18 : (Cond.methodLink RX5 205 yX5_lettersUnanswered) ∈ WW := wwOf (tb2 (List.mem_of_getElem? (i := 192) rfl)) rfl
theorem kw_19 : (Cond.instanceMethod yX5_lettersUnanswered) ∈ WW := wwOf (tb2 (List.mem_of_getElem? (i := 194) rfl)) rfl
theorem kw_20 : (Cond.selects RX5 yX5_lettersUnanswered yX5_lettersUnanswered) ∈ WW := wwOf (tbS (List.mem_of_getElem? (i := 9) rfl)) rfl
theorem kw_21 : (Cond.fieldLink RX5 55 "KeyTurner" "passed" "I") ∈ WW := wwOf (tb1 (List.mem_of_getElem? (i := 166) rfl)) rfl
theorem kw_22 : (Cond.fieldLink RX5 58 "KeyTurner" "failed" "I") ∈ WW := wwOf (tb1 (List.mem_of_getElem? (i := 167) rfl)) rfl
theorem kw_23 : (Cond.code yX5_secretsPastLife prog_1_method_30_code 3 (Option.some Jvm.ClassFile.FieldType.int)) ∈ WW := wwOf (tb2 (List.mem_of_getElem? (i := 199) rfl)) rfl
theorem kw_24 : (Cond.methodLink RX5 208 yX5_secretsPastLife) ∈ WW := wwOf (tb2 (List.mem_of_getElem? (i := 196) rfl)) rfl
theorem kw_25 : (Cond.instanceMethod yX5_secretsPastLife) ∈ WW := wwOf (tb2 (List.mem_of_getElem? (i := 198) rfl)) rfl
theorem kw_26 : (Cond.selects RX5 yX5_secretsPastLife yX5_secretsPastLife) ∈ WW := wwOf (tbS (List.mem_of_getElem? (i := 10) rfl)) rfl
theorem kw_27 : (Cond.fieldLink RX5 49 "KeyTurner" "quiet" "I") ∈ WW := wwOf (tb1 (List.mem_of_getElem? (i := 164) rfl)) rfl
theorem kw_28 : (Cond.fieldLink RX5 52 "KeyTurner" "last" "I") ∈ WW := wwOf (tb1 (List.mem_of_getElem? (i := 165) rfl)) rfl
theorem kw_29 : (Cond.fieldLink RX5 31 "KeyTurner" "people" "LKeyTurner$People;") ∈ WW := wwOf (tb1 (List.mem_of_getElem? (i := 160) rfl)) rfl
theorem kw_30 : (Cond.fieldLink RX5 85 "KeyTurner$People" "delays" "[I") ∈ WW := wwOf (tb1 (List.mem_of_getElem? (i := 45) rfl)) rfl
theorem kw_31 : (Cond.code yX2_isDown prog_4_method_2_code 2 (Option.some Jvm.ClassFile.FieldType.boolean)) ∈ WW := wwOf (tb1 (List.mem_of_getElem? (i := 237) rfl)) rfl
theorem kw_32 : (Cond.methodLink RX5 89 yX2_isDown) ∈ WW := wwOf (tb1 (List.mem_of_getElem? (i := 234) rfl)) rfl
theorem kw_33 : (Cond.instanceMethod yX2_isDown) ∈ WW := wwOf (tb1 (List.mem_of_getElem? (i := 235) rfl)) rfl
theorem kw_34 : (Cond.selects RX2 yX2_isDown yX2_isDown) ∈ WW := wwOf (tb1 (List.mem_of_getElem? (i := 236) rfl)) rfl
theorem kw_35 : (Cond.initialized RX2) ∈ WW := wwOf (tb1 (List.mem_of_getElem? (i := 3) rfl)) rfl
theorem kw_36 : (Cond.fieldLink RX5 92 "KeyTurner$People" "downBits" "I") ∈ WW := wwOf (tb1 (List.mem_of_getElem? (i := 48) rfl)) rfl
theorem kw_37 : (Cond.methodLink RX5 236 Lib.Math.max.name) ∈ WW := wwOf (tb2 (List.mem_of_getElem? (i := 85) rfl)) rfl
theorem kw_38 : (Cond.static Lib.Math.max.name) ∈ WW := wwOf (tb2 (List.mem_of_getElem? (i := 40) rfl)) rfl
theorem kw_39 : (Cond.initialized RJ9) ∈ WW := wwOf (tb1 (List.mem_of_getElem? (i := 8) rfl)) rfl
theorem kw_40 : (Cond.code Lib.Math.max.name prog_11_method_65_code 2 (Option.some Jvm.ClassFile.FieldType.int)) ∈ WW := wwOf (tb2 (List.mem_of_getElem? (i := 41) rfl)) rfl
theorem kw_41 : (Cond.constant RX5 120 (100000 : Int32)) ∈ WW := wwOf (tb2 (List.mem_of_getElem? (i := 58) rfl)) rfl
theorem kw_42 : (Cond.code yX5_nextStir prog_1_method_23_code 4 (Option.some Jvm.ClassFile.FieldType.int)) ∈ WW := wwOf (tb2 (List.mem_of_getElem? (i := 62) rfl)) rfl
theorem kw_43 : (Cond.methodLink RX5 121 yX5_nextStir) ∈ WW := wwOf (tb2 (List.mem_of_getElem? (i := 59) rfl)) rfl
theorem kw_44 : (Cond.instanceMethod yX5_nextStir) ∈ WW := wwOf (tb2 (List.mem_of_getElem? (i := 61) rfl)) rfl
theorem kw_45 : (Cond.selects RX5 yX5_nextStir yX5_nextStir) ∈ WW := wwOf (tbS (List.mem_of_getElem? (i := 3) rfl)) rfl
theorem kw_46 : (Cond.fieldLink RX3 9 "KeyTurner$Secret" "kind" "I") ∈ WW := wwOf (tb1 (List.mem_of_getElem? (i := 80) rfl)) rfl
theorem kw_47 : (Cond.fieldLink RX3 15 "KeyTurner$Secret" "holders" "I") ∈ WW := wwOf (tb1 (List.mem_of_getElem? (i := 83) rfl)) rfl
theorem kw_48 : (Cond.fieldLink RX3 18 "KeyTurner$Secret" "checkers" "I") ∈ WW := wwOf (tb1 (List.mem_of_getElem? (i := 86) rfl)) rfl
theorem kw_49 : (Cond.fieldLink RX3 21 "KeyTurner$Secret" "life" "I") ∈ WW := wwOf (tb1 (List.mem_of_getElem? (i := 89) rfl)) rfl
theorem kw_50 : (Cond.fieldLink RX3 27 "KeyTurner$Secret" "latestMade" "I") ∈ WW := wwOf (tb1 (List.mem_of_getElem? (i := 94) rfl)) rfl
theorem kw_51 : (Cond.fieldLink RX3 33 "KeyTurner$Secret" "latestHeld" "I") ∈ WW := wwOf (tb1 (List.mem_of_getElem? (i := 97) rfl)) rfl
theorem kw_52 : (Cond.fieldLink RX3 36 "KeyTurner$Secret" "latestGood" "I") ∈ WW := wwOf (tb1 (List.mem_of_getElem? (i := 99) rfl)) rfl
theorem kw_53 : (Cond.fieldLink RX5 11 "KeyTurner" "secrets" "[LKeyTurner$Secret;") ∈ WW := wwOf (tb1 (List.mem_of_getElem? (i := 157) rfl)) rfl
theorem kw_54 : (Cond.code yX3_open prog_5_method_2_code 6 (Option.none : Option Jvm.ClassFile.FieldType)) ∈ WW := wwOf (tb1 (List.mem_of_getElem? (i := 198) rfl)) rfl
theorem kw_55 : (Cond.methodLink RX5 66 yX3_open) ∈ WW := wwOf (tb1 (List.mem_of_getElem? (i := 195) rfl)) rfl
theorem kw_56 : (Cond.instanceMethod yX3_open) ∈ WW := wwOf (tb1 (List.mem_of_getElem? (i := 196) rfl)) rfl
theorem kw_57 : (Cond.selects RX3 yX3_open yX3_open) ∈ WW := wwOf (tb1 (List.mem_of_getElem? (i := 197) rfl)) rfl
theorem kw_58 : (Cond.initialized RX3) ∈ WW := wwOf (tb1 (List.mem_of_getElem? (i := 6) rfl)) rfl
theorem kw_59 : (Cond.code yX6_isSecret prog_8_method_4_code 2 (Option.some Jvm.ClassFile.FieldType.boolean)) ∈ WW := wwOf (tb3 (List.mem_of_getElem? (i := 190) rfl)) rfl
theorem kw_60 : (Cond.methodLink RX6 133 yX6_isSecret) ∈ WW := wwOf (tb3 (List.mem_of_getElem? (i := 187) rfl)) rfl
theorem kw_61 : (Cond.instanceMethod yX6_isSecret) ∈ WW := wwOf (tb3 (List.mem_of_getElem? (i := 189) rfl)) rfl
theorem kw_62 : (Cond.selects RX6 yX6_isSecret yX6_isSecret) ∈ WW := wwOf (tbS (List.mem_of_getElem? (i := 12) rfl)) rfl
theorem kw_63 : (Cond.initialized RX6) ∈ WW := wwOf (tb1 (List.mem_of_getElem? (i := 7) rfl)) rfl
theorem kw_64 : (Cond.code yX6_isHolder prog_8_method_28_code 3 (Option.some Jvm.ClassFile.FieldType.boolean)) ∈ WW := wwOf (tb4 (List.mem_of_getElem? (i := 31) rfl)) rfl
theorem kw_65 : (Cond.methodLink RX6 195 yX6_isHolder) ∈ WW := wwOf (tb4 (List.mem_of_getElem? (i := 28) rfl)) rfl
theorem kw_66 : (Cond.instanceMethod yX6_isHolder) ∈ WW := wwOf (tb4 (List.mem_of_getElem? (i := 30) rfl)) rfl
theorem kw_67 : (Cond.selects RX6 yX6_isHolder yX6_isHolder) ∈ WW := wwOf (tbS (List.mem_of_getElem? (i := 22) rfl)) rfl
theorem kw_68 : (Cond.code yX6_isChecker prog_8_method_27_code 3 (Option.some Jvm.ClassFile.FieldType.boolean)) ∈ WW := wwOf (tb4 (List.mem_of_getElem? (i := 35) rfl)) rfl
theorem kw_69 : (Cond.methodLink RX6 198 yX6_isChecker) ∈ WW := wwOf (tb4 (List.mem_of_getElem? (i := 32) rfl)) rfl
theorem kw_70 : (Cond.instanceMethod yX6_isChecker) ∈ WW := wwOf (tb4 (List.mem_of_getElem? (i := 34) rfl)) rfl
theorem kw_71 : (Cond.selects RX6 yX6_isChecker yX6_isChecker) ∈ WW := wwOf (tbS (List.mem_of_getElem? (i := 23) rfl)) rfl
theorem kw_72 : (Cond.code yX6_isIn prog_8_method_3_code 3 (Option.some Jvm.ClassFile.FieldType.boolean)) ∈ WW := wwOf (tb3 (List.mem_of_getElem? (i := 182) rfl)) rfl
theorem kw_73 : (Cond.methodLink RX6 126 yX6_isIn) ∈ WW := wwOf (tb3 (List.mem_of_getElem? (i := 180) rfl)) rfl
theorem kw_74 : (Cond.static yX6_isIn) ∈ WW := wwOf (tb3 (List.mem_of_getElem? (i := 181) rfl)) rfl
theorem kw_75 : (Cond.fieldLink RX6 7 "KeyTurnerModel" "quiet" "I") ∈ WW := wwOf (tb3 (List.mem_of_getElem? (i := 48) rfl)) rfl
theorem kw_76 : (Cond.fieldLink RX6 13 "KeyTurnerModel" "last" "I") ∈ WW := wwOf (tb3 (List.mem_of_getElem? (i := 49) rfl)) rfl
theorem kw_77 : (Cond.fieldLink RX6 72 "KeyTurnerModel" "delay" "[I") ∈ WW := wwOf (tb3 (List.mem_of_getElem? (i := 68) rfl)) rfl
theorem kw_78 : (Cond.fieldLink RX6 60 "KeyTurnerModel" "isDown" "[Z") ∈ WW := wwOf (tb3 (List.mem_of_getElem? (i := 64) rfl)) rfl
theorem kw_79 : (Cond.fieldLink RX6 117 "KeyTurnerModel" "in" "[Z") ∈ WW := wwOf (tb3 (List.mem_of_getElem? (i := 83) rfl)) rfl
theorem kw_80 : (Cond.fieldLink RX6 130 "KeyTurnerModel" "now" "I") ∈ WW := wwOf (tb3 (List.mem_of_getElem? (i := 42) rfl)) rfl
theorem kw_81 : (Cond.fieldLink RX6 179 "KeyTurnerModel" "turns" "I") ∈ WW := wwOf (tb3 (List.mem_of_getElem? (i := 45) rfl)) rfl
theorem kw_82 : (Cond.fieldLink RX6 141 "KeyTurnerModel" "letters" "I") ∈ WW := wwOf (tb3 (List.mem_of_getElem? (i := 44) rfl)) rfl
theorem kw_83 : (Cond.fieldLink RX6 192 "KeyTurnerModel" "passed" "I") ∈ WW := wwOf (tb3 (List.mem_of_getElem? (i := 46) rfl)) rfl
theorem kw_84 : (Cond.fieldLink RX6 189 "KeyTurnerModel" "failed" "I") ∈ WW := wwOf (tb3 (List.mem_of_getElem? (i := 47) rfl)) rfl
theorem kw_85 : (Cond.fieldLink RX6 16 "KeyTurnerModel" "kind" "[I") ∈ WW := wwOf (tb3 (List.mem_of_getElem? (i := 50) rfl)) rfl
theorem kw_86 : (Cond.fieldLink RX6 20 "KeyTurnerModel" "holders" "[I") ∈ WW := wwOf (tb3 (List.mem_of_getElem? (i := 51) rfl)) rfl
theorem kw_87 : (Cond.fieldLink RX6 23 "KeyTurnerModel" "checkers" "[I") ∈ WW := wwOf (tb3 (List.mem_of_getElem? (i := 52) rfl)) rfl
theorem kw_88 : (Cond.fieldLink RX6 26 "KeyTurnerModel" "life" "[I") ∈ WW := wwOf (tb3 (List.mem_of_getElem? (i := 53) rfl)) rfl
theorem kw_89 : (Cond.fieldLink RX6 32 "KeyTurnerModel" "made" "[I") ∈ WW := wwOf (tb3 (List.mem_of_getElem? (i := 55) rfl)) rfl
theorem kw_90 : (Cond.fieldLink RX6 66 "KeyTurnerModel" "oneGood" "[I") ∈ WW := wwOf (tb3 (List.mem_of_getElem? (i := 66) rfl)) rfl
theorem kw_91 : (Cond.fieldLink RX6 75 "KeyTurnerModel" "oneMade" "[I") ∈ WW := wwOf (tb3 (List.mem_of_getElem? (i := 69) rfl)) rfl
theorem kw_92 : (Cond.fieldLink RX6 69 "KeyTurnerModel" "otherGood" "[I") ∈ WW := wwOf (tb3 (List.mem_of_getElem? (i := 67) rfl)) rfl
theorem kw_93 : (Cond.constant RX6 172 (100000 : Int32)) ∈ WW := wwOf (tb3 (List.mem_of_getElem? (i := 219) rfl)) rfl
theorem kw_94 : (Cond.code yX6_take prog_8_method_17_code 4 (Option.none : Option Jvm.ClassFile.FieldType)) ∈ WW := wwOf (tb3 (List.mem_of_getElem? (i := 223) rfl)) rfl
theorem kw_95 : (Cond.methodLink RX6 173 yX6_take) ∈ WW := wwOf (tb3 (List.mem_of_getElem? (i := 220) rfl)) rfl
theorem kw_96 : (Cond.instanceMethod yX6_take) ∈ WW := wwOf (tb3 (List.mem_of_getElem? (i := 222) rfl)) rfl
theorem kw_97 : (Cond.selects RX6 yX6_take yX6_take) ∈ WW := wwOf (tbS (List.mem_of_getElem? (i := 14) rfl)) rfl
theorem kw_98 : (Cond.methodLink RX3 3 objectInit) ∈ WW := wwOf (tb1 (List.mem_of_getElem? (i := 79) rfl)) rfl
theorem kw_99 : (Cond.instanceMethod objectInit) ∈ WW := wwOf (tb1 (List.mem_of_getElem? (i := 20) rfl)) rfl
theorem kw_100 : (Cond.code objectInit object_method_1_code 1 (Option.none : Option Jvm.ClassFile.FieldType)) ∈ WW := wwOf (tb1 (List.mem_of_getElem? (i := 21) rfl)) rfl
theorem kw_101 : (Cond.fieldLink RX3 24 "KeyTurner$Secret" "latest" "I") ∈ WW := wwOf (tb1 (List.mem_of_getElem? (i := 91) rfl)) rfl
theorem kw_102 : (Cond.fieldLink RX3 30 "KeyTurner$Secret" "olderMade" "I") ∈ WW := wwOf (tb1 (List.mem_of_getElem? (i := 96) rfl)) rfl
theorem kw_103 : (Cond.fieldLink RX3 39 "KeyTurner$Secret" "olderGood" "I") ∈ WW := wwOf (tb1 (List.mem_of_getElem? (i := 101) rfl)) rfl
theorem kw_104 : (Cond.methodLink RX0 3 objectInit) ∈ WW := wwOf (tb1 (List.mem_of_getElem? (i := 73) rfl)) rfl
theorem kw_105 : (Cond.classLink RX0 9 RX3) ∈ WW := wwOf (tb1 (List.mem_of_getElem? (i := 74) rfl)) rfl
theorem kw_106 : (Cond.instantiable RX3 10) ∈ WW := wwOf (tb1 (List.mem_of_getElem? (i := 75) rfl)) rfl
theorem kw_107 : (Cond.code yX3_init prog_5_method_1_code 1 (Option.none : Option Jvm.ClassFile.FieldType)) ∈ WW := wwOf (tb1 (List.mem_of_getElem? (i := 78) rfl)) rfl
theorem kw_108 : (Cond.instanceMethod yX3_init) ∈ WW := wwOf (tb1 (List.mem_of_getElem? (i := 77) rfl)) rfl
theorem kw_109 : (Cond.fieldLink RX0 12 "KeyTurner$Course" "secret" "LKeyTurner$Secret;") ∈ WW := wwOf (tb1 (List.mem_of_getElem? (i := 124) rfl)) rfl
theorem kw_110 : (Cond.arrayClass Jvm.ClassFile.FieldType.int) ∈ WW := wwOf (tb1 (List.mem_of_getElem? (i := 37) rfl)) rfl
theorem kw_111 : (Cond.fieldLink RX0 18 "KeyTurner$Course" "comes" "[I") ∈ WW := wwOf (tb1 (List.mem_of_getElem? (i := 126) rfl)) rfl
theorem kw_112 : (Cond.fieldLink RX0 22 "KeyTurner$Course" "unanswered" "I") ∈ WW := wwOf (tb1 (List.mem_of_getElem? (i := 127) rfl)) rfl
theorem kw_113 : (Cond.fieldLink RX0 26 "KeyTurner$Course" "turn" "I") ∈ WW := wwOf (tb1 (List.mem_of_getElem? (i := 128) rfl)) rfl
theorem kw_114 : (Cond.fieldLink RX0 29 "KeyTurner$Course" "step" "I") ∈ WW := wwOf (tb1 (List.mem_of_getElem? (i := 130) rfl)) rfl
theorem kw_115 : (Cond.fieldLink RX0 32 "KeyTurner$Course" "stepBegan" "I") ∈ WW := wwOf (tb1 (List.mem_of_getElem? (i := 132) rfl)) rfl
theorem kw_116 : (Cond.fieldLink RX0 35 "KeyTurner$Course" "late" "I") ∈ WW := wwOf (tb1 (List.mem_of_getElem? (i := 134) rfl)) rfl
theorem kw_117 : (Cond.fieldLink RX0 38 "KeyTurner$Course" "latestLateAsk" "I") ∈ WW := wwOf (tb1 (List.mem_of_getElem? (i := 136) rfl)) rfl
theorem kw_118 : (Cond.fieldLink RX0 41 "KeyTurner$Course" "handsOutLast" "Z") ∈ WW := wwOf (tb1 (List.mem_of_getElem? (i := 137) rfl)) rfl
theorem kw_119 : (Cond.methodLink RX4 3 objectInit) ∈ WW := wwOf (tb1 (List.mem_of_getElem? (i := 31) rfl)) rfl
theorem kw_120 : (Cond.fieldLink RX4 9 "KeyTurner$Web" "direct" "[I") ∈ WW := wwOf (tb1 (List.mem_of_getElem? (i := 32) rfl)) rfl
theorem kw_121 : (Cond.methodLink RX2 3 objectInit) ∈ WW := wwOf (tb1 (List.mem_of_getElem? (i := 43) rfl)) rfl
theorem kw_122 : (Cond.fieldLink RX2 9 "KeyTurner$People" "delays" "[I") ∈ WW := wwOf (tb1 (List.mem_of_getElem? (i := 44) rfl)) rfl
theorem kw_123 : (Cond.methodLink RX1 3 objectInit) ∈ WW := wwOf (tb1 (List.mem_of_getElem? (i := 59) rfl)) rfl
theorem kw_124 : (Cond.fieldLink RX1 11 "KeyTurner$Log" "rows" "[I") ∈ WW := wwOf (tb1 (List.mem_of_getElem? (i := 60) rfl)) rfl
theorem kw_125 : (Cond.methodLink RX5 3 objectInit) ∈ WW := wwOf (tb1 (List.mem_of_getElem? (i := 19) rfl)) rfl
theorem kw_126 : (Cond.classLink RX5 9 RX3) ∈ WW := wwOf (tb1 (List.mem_of_getElem? (i := 22) rfl)) rfl
theorem kw_127 : (Cond.classLink RX5 15 RX0) ∈ WW := wwOf (tb1 (List.mem_of_getElem? (i := 24) rfl)) rfl
theorem kw_128 : (Cond.fieldLink RX5 17 "KeyTurner" "courses" "[LKeyTurner$Course;") ∈ WW := wwOf (tb1 (List.mem_of_getElem? (i := 158) rfl)) rfl
theorem kw_129 : (Cond.classLink RX5 21 RX4) ∈ WW := wwOf (tb1 (List.mem_of_getElem? (i := 26) rfl)) rfl
theorem kw_130 : (Cond.instantiable RX4 1) ∈ WW := wwOf (tb1 (List.mem_of_getElem? (i := 27) rfl)) rfl
theorem kw_131 : (Cond.initialized RX4) ∈ WW := wwOf (tb1 (List.mem_of_getElem? (i := 2) rfl)) rfl
theorem kw_132 : (Cond.code yX4_init prog_6_method_1_code 1 (Option.none : Option Jvm.ClassFile.FieldType)) ∈ WW := wwOf (tb1 (List.mem_of_getElem? (i := 30) rfl)) rfl
theorem kw_133 : (Cond.instanceMethod yX4_init) ∈ WW := wwOf (tb1 (List.mem_of_getElem? (i := 29) rfl)) rfl
theorem kw_134 : (Cond.fieldLink RX5 24 "KeyTurner" "web" "LKeyTurner$Web;") ∈ WW := wwOf (tb1 (List.mem_of_getElem? (i := 159) rfl)) rfl
theorem kw_135 : (Cond.classLink RX5 28 RX2) ∈ WW := wwOf (tb1 (List.mem_of_getElem? (i := 38) rfl)) rfl
theorem kw_136 : (Cond.instantiable RX2 2) ∈ WW := wwOf (tb1 (List.mem_of_getElem? (i := 39) rfl)) rfl
theorem kw_137 : (Cond.code yX2_init prog_4_method_1_code 2 (Option.none : Option Jvm.ClassFile.FieldType)) ∈ WW := wwOf (tb1 (List.mem_of_getElem? (i := 42) rfl)) rfl
theorem kw_138 : (Cond.methodLink RX5 30 yX2_init) ∈ WW := wwOf (tb1 (List.mem_of_getElem? (i := 40) rfl)) rfl
theorem kw_139 : (Cond.instanceMethod yX2_init) ∈ WW := wwOf (tb1 (List.mem_of_getElem? (i := 41) rfl)) rfl
theorem kw_140 : (Cond.classLink RX5 35 RX1) ∈ WW := wwOf (tb1 (List.mem_of_getElem? (i := 54) rfl)) rfl
theorem kw_141 : (Cond.instantiable RX1 2) ∈ WW := wwOf (tb1 (List.mem_of_getElem? (i := 55) rfl)) rfl
theorem kw_142 : (Cond.initialized RX1) ∈ WW := wwOf (tb1 (List.mem_of_getElem? (i := 4) rfl)) rfl
theorem kw_143 : (Cond.code yX1_init prog_3_method_1_code 1 (Option.none : Option Jvm.ClassFile.FieldType)) ∈ WW := wwOf (tb1 (List.mem_of_getElem? (i := 58) rfl)) rfl
theorem kw_144 : (Cond.instanceMethod yX1_init) ∈ WW := wwOf (tb1 (List.mem_of_getElem? (i := 57) rfl)) rfl
theorem kw_145 : (Cond.instantiable RX0 9) ∈ WW := wwOf (tb1 (List.mem_of_getElem? (i := 69) rfl)) rfl
theorem kw_146 : (Cond.initialized RX0) ∈ WW := wwOf (tb1 (List.mem_of_getElem? (i := 5) rfl)) rfl
theorem kw_147 : (Cond.code yX0_init prog_2_method_1_code 1 (Option.none : Option Jvm.ClassFile.FieldType)) ∈ WW := wwOf (tb1 (List.mem_of_getElem? (i := 72) rfl)) rfl
theorem kw_148 : (Cond.instanceMethod yX0_init) ∈ WW := wwOf (tb1 (List.mem_of_getElem? (i := 71) rfl)) rfl
theorem kw_149 : (Cond.fieldLink RX5 62 "KeyTurner$Course" "secret" "LKeyTurner$Secret;") ∈ WW := wwOf (tb1 (List.mem_of_getElem? (i := 125) rfl)) rfl
theorem kw_150 : (Cond.methodLink RX6 1 objectInit) ∈ WW := wwOf (tb3 (List.mem_of_getElem? (i := 40) rfl)) rfl
theorem kw_151 : (Cond.fieldLink RX6 29 "KeyTurnerModel" "latest" "[I") ∈ WW := wwOf (tb3 (List.mem_of_getElem? (i := 54) rfl)) rfl
theorem kw_152 : (Cond.fieldLink RX6 35 "KeyTurnerModel" "step" "[I") ∈ WW := wwOf (tb3 (List.mem_of_getElem? (i := 56) rfl)) rfl
theorem kw_153 : (Cond.fieldLink RX6 38 "KeyTurnerModel" "began" "[I") ∈ WW := wwOf (tb3 (List.mem_of_getElem? (i := 57) rfl)) rfl
theorem kw_154 : (Cond.fieldLink RX6 41 "KeyTurnerModel" "late" "[I") ∈ WW := wwOf (tb3 (List.mem_of_getElem? (i := 58) rfl)) rfl
theorem kw_155 : (Cond.fieldLink RX6 44 "KeyTurnerModel" "lastOld" "[I") ∈ WW := wwOf (tb3 (List.mem_of_getElem? (i := 59) rfl)) rfl
theorem kw_156 : (Cond.fieldLink RX6 47 "KeyTurnerModel" "open" "[I") ∈ WW := wwOf (tb3 (List.mem_of_getElem? (i := 60) rfl)) rfl
theorem kw_157 : (Cond.fieldLink RX6 50 "KeyTurnerModel" "turnOf" "[I") ∈ WW := wwOf (tb3 (List.mem_of_getElem? (i := 61) rfl)) rfl
theorem kw_158 : (Cond.arrayClass Jvm.ClassFile.FieldType.boolean) ∈ WW := wwOf (tb3 (List.mem_of_getElem? (i := 171) rfl)) rfl
theorem kw_159 : (Cond.fieldLink RX6 53 "KeyTurnerModel" "isQuick" "[Z") ∈ WW := wwOf (tb3 (List.mem_of_getElem? (i := 62) rfl)) rfl
theorem kw_160 : (Cond.fieldLink RX6 57 "KeyTurnerModel" "needs" "[Z") ∈ WW := wwOf (tb3 (List.mem_of_getElem? (i := 63) rfl)) rfl
theorem kw_161 : (Cond.fieldLink RX6 63 "KeyTurnerModel" "has" "[I") ∈ WW := wwOf (tb3 (List.mem_of_getElem? (i := 65) rfl)) rfl
theorem kw_162 : (Cond.fieldLink RX6 78 "KeyTurnerModel" "otherMade" "[I") ∈ WW := wwOf (tb3 (List.mem_of_getElem? (i := 70) rfl)) rfl
theorem kw_163 : (Cond.fieldLink RX6 81 "KeyTurnerModel" "toWhom" "[I") ∈ WW := wwOf (tb3 (List.mem_of_getElem? (i := 71) rfl)) rfl
theorem kw_164 : (Cond.fieldLink RX6 84 "KeyTurnerModel" "ofSecret" "[I") ∈ WW := wwOf (tb3 (List.mem_of_getElem? (i := 72) rfl)) rfl
theorem kw_165 : (Cond.fieldLink RX6 87 "KeyTurnerModel" "comes" "[I") ∈ WW := wwOf (tb3 (List.mem_of_getElem? (i := 73) rfl)) rfl
theorem kw_166 : (Cond.fieldLink RX6 90 "KeyTurnerModel" "version" "[I") ∈ WW := wwOf (tb3 (List.mem_of_getElem? (i := 74) rfl)) rfl
theorem kw_167 : (Cond.fieldLink RX6 93 "KeyTurnerModel" "versionMade" "[I") ∈ WW := wwOf (tb3 (List.mem_of_getElem? (i := 75) rfl)) rfl
theorem kw_168 : (Cond.fieldLink RX6 96 "KeyTurnerModel" "isOnly" "[Z") ∈ WW := wwOf (tb3 (List.mem_of_getElem? (i := 76) rfl)) rfl
theorem kw_169 : (Cond.fieldLink RX6 99 "KeyTurnerModel" "turnSecret" "[I") ∈ WW := wwOf (tb3 (List.mem_of_getElem? (i := 77) rfl)) rfl
theorem kw_170 : (Cond.fieldLink RX6 102 "KeyTurnerModel" "turnVersion" "[I") ∈ WW := wwOf (tb3 (List.mem_of_getElem? (i := 78) rfl)) rfl
theorem kw_171 : (Cond.fieldLink RX6 105 "KeyTurnerModel" "turnBegan" "[I") ∈ WW := wwOf (tb3 (List.mem_of_getElem? (i := 79) rfl)) rfl
theorem kw_172 : (Cond.fieldLink RX6 108 "KeyTurnerModel" "turnOver" "[I") ∈ WW := wwOf (tb3 (List.mem_of_getElem? (i := 80) rfl)) rfl
theorem kw_173 : (Cond.fieldLink RX6 111 "KeyTurnerModel" "turnStolen" "[Z") ∈ WW := wwOf (tb3 (List.mem_of_getElem? (i := 81) rfl)) rfl
theorem kw_174 : (Cond.fieldLink RX6 114 "KeyTurnerModel" "seen" "[Z") ∈ WW := wwOf (tb3 (List.mem_of_getElem? (i := 82) rfl)) rfl
theorem kw_175 : (Cond.initialized "java/lang/Throwable") ∈ WW := wwOf (tb1 (List.mem_of_getElem? (i := 10) rfl)) rfl
theorem kw_176 : (Cond.superclass "java/lang/Throwable" "java/lang/Object") ∈ WW := wwOf (tb2 (List.mem_of_getElem? (i := 231) rfl)) rfl
theorem kw_177 : (Cond.instanceMethod (⟨"java/lang/Throwable", "fillInStackTrace", "()Ljava/lang/Throwable;"⟩ : MethodName)) ∈ WW := wwOf (tb3 (List.mem_of_getElem? (i := 0) rfl)) rfl
theorem kw_178 : (Cond.codeSync (⟨"java/lang/Throwable", "fillInStackTrace", "()Ljava/lang/Throwable;"⟩ : MethodName) prog_14_method_18_code 1 (Option.some (Jvm.ClassFile.FieldType.object "java/lang/Throwable"))) ∈ WW := wwOf (tb3 (List.mem_of_getElem? (i := 2) rfl)) rfl
theorem kw_179 : (Cond.instanceMethod (⟨"java/lang/Throwable", "fillInStackTrace", "(I)Ljava/lang/Throwable;"⟩ : MethodName)) ∈ WW := wwOf (tb3 (List.mem_of_getElem? (i := 5) rfl)) rfl
theorem kw_180 : (Cond.native (⟨"java/lang/Throwable", "fillInStackTrace", "(I)Ljava/lang/Throwable;"⟩ : MethodName)) ∈ WW := wwOf (tb3 (List.mem_of_getElem? (i := 7) rfl)) rfl
theorem kw_181 : (Cond.instanceMethod (⟨"java/lang/Throwable", "<init>", "()V"⟩ : MethodName)) ∈ WW := wwOf (tb2 (List.mem_of_getElem? (i := 232) rfl)) rfl
theorem kw_182 : (Cond.code (⟨"java/lang/Throwable", "<init>", "()V"⟩ : MethodName) prog_14_method_1_code 1 (Option.none : Option Jvm.ClassFile.FieldType)) ∈ WW := wwOf (tb2 (List.mem_of_getElem? (i := 233) rfl)) rfl
theorem kw_183 : (Cond.methodLink "java/lang/Throwable" 1 objectInit) ∈ WW := wwOf (tb2 (List.mem_of_getElem? (i := 234) rfl)) rfl
theorem kw_184 : (Cond.methodLink "java/lang/Throwable" 27 (⟨"java/lang/Throwable", "fillInStackTrace", "()Ljava/lang/Throwable;"⟩ : MethodName)) ∈ WW := wwOf (tb2 (List.mem_of_getElem? (i := 239) rfl)) rfl
theorem kw_185 : (Cond.methodLink "java/lang/Throwable" 202 (⟨"java/lang/Throwable", "fillInStackTrace", "(I)Ljava/lang/Throwable;"⟩ : MethodName)) ∈ WW := wwOf (tb3 (List.mem_of_getElem? (i := 3) rfl)) rfl
theorem kw_186 : (Cond.fieldLink "java/lang/Throwable" 7 "java/lang/Throwable" "cause" "Ljava/lang/Throwable;") ∈ WW := wwOf (tb3 (List.mem_of_getElem? (i := 23) rfl)) rfl
theorem kw_187 : (Cond.lays "java/lang/Throwable" "java/lang/Throwable" "cause" "Ljava/lang/Throwable;") ∈ WW := wwOf (tb2 (List.mem_of_getElem? (i := 221) rfl)) rfl
theorem kw_188 : (Cond.fieldLink "java/lang/Throwable" 17 "java/lang/Throwable" "stackTrace" "[Ljava/lang/StackTraceElement;") ∈ WW := wwOf (tb3 (List.mem_of_getElem? (i := 24) rfl)) rfl
theorem kw_189 : (Cond.lays "java/lang/Throwable" "java/lang/Throwable" "stackTrace" "[Ljava/lang/StackTraceElement;") ∈ WW := wwOf (tb2 (List.mem_of_getElem? (i := 223) rfl)) rfl
theorem kw_190 : (Cond.fieldLink "java/lang/Throwable" 24 "java/lang/Throwable" "suppressedExceptions" "Ljava/util/List;") ∈ WW := wwOf (tb3 (List.mem_of_getElem? (i := 25) rfl)) rfl
theorem kw_191 : (Cond.lays "java/lang/Throwable" "java/lang/Throwable" "suppressedExceptions" "Ljava/util/List;") ∈ WW := wwOf (tb2 (List.mem_of_getElem? (i := 225) rfl)) rfl
theorem kw_192 : (Cond.fieldLink "java/lang/Throwable" 13 "java/lang/Throwable" "UNASSIGNED_STACK" "[Ljava/lang/StackTraceElement;") ∈ WW := wwOf (tb2 (List.mem_of_getElem? (i := 235) rfl)) rfl
theorem kw_193 : (Cond.fieldLink "java/lang/Throwable" 20 "java/lang/Throwable" "SUPPRESSED_SENTINEL" "Ljava/util/List;") ∈ WW := wwOf (tb2 (List.mem_of_getElem? (i := 237) rfl)) rfl
theorem kw_194 : (Cond.lays "java/lang/Throwable" "java/lang/Throwable" "detailMessage" "Ljava/lang/String;") ∈ WW := wwOf (tb2 (List.mem_of_getElem? (i := 227) rfl)) rfl
theorem kw_195 : (Cond.instanceMethod (⟨"java/lang/Throwable", "<init>", "(Ljava/lang/String;)V"⟩ : MethodName)) ∈ WW := wwOf (tb3 (List.mem_of_getElem? (i := 19) rfl)) rfl
theorem kw_196 : (Cond.code (⟨"java/lang/Throwable", "<init>", "(Ljava/lang/String;)V"⟩ : MethodName) prog_14_method_2_code 2 (Option.none : Option Jvm.ClassFile.FieldType)) ∈ WW := wwOf (tb3 (List.mem_of_getElem? (i := 20) rfl)) rfl
theorem kw_197 : (Cond.fieldLink "java/lang/Throwable" 31 "java/lang/Throwable" "detailMessage" "Ljava/lang/String;") ∈ WW := wwOf (tb3 (List.mem_of_getElem? (i := 22) rfl)) rfl
theorem kw_198 : (Cond.methodLink RX5 193 (⟨"java/util/NoSuchElementException", "<init>", "(Ljava/lang/String;)V"⟩ : MethodName)) ∈ WW := wwOf (tb3 (List.mem_of_getElem? (i := 9) rfl)) rfl
theorem kw_199 : (Cond.instantiable "java/util/NoSuchElementException" 6) ∈ WW := wwOf (tb2 (List.mem_of_getElem? (i := 210) rfl)) rfl
theorem kw_200 : (Cond.selects "java/util/NoSuchElementException" (⟨"java/lang/Throwable", "fillInStackTrace", "(I)Ljava/lang/Throwable;"⟩ : MethodName) (⟨"java/lang/Throwable", "fillInStackTrace", "(I)Ljava/lang/Throwable;"⟩ : MethodName)) ∈ WW := wwOf (tb2 (List.mem_of_getElem? (i := 218) rfl)) rfl
theorem kw_201 : (Cond.selects "java/util/NoSuchElementException" (⟨"java/lang/Throwable", "fillInStackTrace", "()Ljava/lang/Throwable;"⟩ : MethodName) (⟨"java/lang/Throwable", "fillInStackTrace", "()Ljava/lang/Throwable;"⟩ : MethodName)) ∈ WW := wwOf (tb2 (List.mem_of_getElem? (i := 219) rfl)) rfl
theorem kw_202 : (Cond.lays "java/util/NoSuchElementException" "java/lang/Throwable" "cause" "Ljava/lang/Throwable;") ∈ WW := wwOf (tb2 (List.mem_of_getElem? (i := 220) rfl)) rfl
theorem kw_203 : (Cond.lays "java/util/NoSuchElementException" "java/lang/Throwable" "stackTrace" "[Ljava/lang/StackTraceElement;") ∈ WW := wwOf (tb2 (List.mem_of_getElem? (i := 222) rfl)) rfl
theorem kw_204 : (Cond.lays "java/util/NoSuchElementException" "java/lang/Throwable" "suppressedExceptions" "Ljava/util/List;") ∈ WW := wwOf (tb2 (List.mem_of_getElem? (i := 224) rfl)) rfl
theorem kw_205 : (Cond.lays "java/util/NoSuchElementException" "java/lang/Throwable" "detailMessage" "Ljava/lang/String;") ∈ WW := wwOf (tb2 (List.mem_of_getElem? (i := 226) rfl)) rfl
theorem kw_206 : (Cond.fieldLink "java/lang/Throwable" 198 "java/lang/Throwable" "backtrace" "Ljava/lang/Object;") ∈ WW := wwOf (tb2 (List.mem_of_getElem? (i := 230) rfl)) rfl
theorem kw_207 : (Cond.lays "java/lang/Throwable" "java/lang/Throwable" "backtrace" "Ljava/lang/Object;") ∈ WW := wwOf (tb2 (List.mem_of_getElem? (i := 229) rfl)) rfl
theorem kw_208 : (Cond.lays "java/util/NoSuchElementException" "java/lang/Throwable" "backtrace" "Ljava/lang/Object;") ∈ WW := wwOf (tb2 (List.mem_of_getElem? (i := 228) rfl)) rfl
theorem kw_209 : (Cond.instanceMethod (⟨"java/util/NoSuchElementException", "<init>", "(Ljava/lang/String;)V"⟩ : MethodName)) ∈ WW := wwOf (tb3 (List.mem_of_getElem? (i := 10) rfl)) rfl
theorem kw_210 : (Cond.code (⟨"java/util/NoSuchElementException", "<init>", "(Ljava/lang/String;)V"⟩ : MethodName) prog_15_method_4_code 2 (Option.none : Option Jvm.ClassFile.FieldType)) ∈ WW := wwOf (tb3 (List.mem_of_getElem? (i := 11) rfl)) rfl
theorem kw_211 : (Cond.methodLink "java/util/NoSuchElementException" 13 (⟨"java/lang/RuntimeException", "<init>", "(Ljava/lang/String;)V"⟩ : MethodName)) ∈ WW := wwOf (tb3 (List.mem_of_getElem? (i := 12) rfl)) rfl
theorem kw_212 : (Cond.instanceMethod (⟨"java/lang/RuntimeException", "<init>", "(Ljava/lang/String;)V"⟩ : MethodName)) ∈ WW := wwOf (tb3 (List.mem_of_getElem? (i := 13) rfl)) rfl
theorem kw_213 : (Cond.code (⟨"java/lang/RuntimeException", "<init>", "(Ljava/lang/String;)V"⟩ : MethodName) prog_12_method_2_code 2 (Option.none : Option Jvm.ClassFile.FieldType)) ∈ WW := wwOf (tb3 (List.mem_of_getElem? (i := 14) rfl)) rfl
theorem kw_214 : (Cond.methodLink "java/lang/RuntimeException" 7 (⟨"java/lang/Exception", "<init>", "(Ljava/lang/String;)V"⟩ : MethodName)) ∈ WW := wwOf (tb3 (List.mem_of_getElem? (i := 15) rfl)) rfl
theorem kw_215 : (Cond.instanceMethod (⟨"java/lang/Exception", "<init>", "(Ljava/lang/String;)V"⟩ : MethodName)) ∈ WW := wwOf (tb3 (List.mem_of_getElem? (i := 16) rfl)) rfl
theorem kw_216 : (Cond.code (⟨"java/lang/Exception", "<init>", "(Ljava/lang/String;)V"⟩ : MethodName) prog_9_method_2_code 2 (Option.none : Option Jvm.ClassFile.FieldType)) ∈ WW := wwOf (tb3 (List.mem_of_getElem? (i := 17) rfl)) rfl
theorem kw_217 : (Cond.methodLink "java/lang/Exception" 7 (⟨"java/lang/Throwable", "<init>", "(Ljava/lang/String;)V"⟩ : MethodName)) ∈ WW := wwOf (tb3 (List.mem_of_getElem? (i := 18) rfl)) rfl
theorem kw_218 : (Cond.code yX1_isKept prog_3_method_2_code 2 (Option.some Jvm.ClassFile.FieldType.boolean)) ∈ WW := wwOf (tb2 (List.mem_of_getElem? (i := 25) rfl)) rfl
theorem kw_219 : (Cond.methodLink RX5 186 yX1_isKept) ∈ WW := wwOf (tb2 (List.mem_of_getElem? (i := 208) rfl)) rfl
theorem kw_220 : (Cond.instanceMethod yX1_isKept) ∈ WW := wwOf (tb2 (List.mem_of_getElem? (i := 23) rfl)) rfl
theorem kw_221 : (Cond.selects RX1 yX1_isKept yX1_isKept) ∈ WW := wwOf (tb2 (List.mem_of_getElem? (i := 24) rfl)) rfl
theorem kw_222 : (Cond.classLink RX5 189 "java/util/NoSuchElementException") ∈ WW := wwOf (tb2 (List.mem_of_getElem? (i := 209) rfl)) rfl
theorem kw_223 : (Cond.initialized "java/util/NoSuchElementException") ∈ WW := wwOf (tb1 (List.mem_of_getElem? (i := 13) rfl)) rfl
theorem kw_224 : (Cond.codeWith yL_turned method_3_code 5 (Option.some Jvm.ClassFile.FieldType.int) [((0 : Nat), (10 : Nat), (13 : Nat), (13 : Nat))]) ∈ WW := wwOf (tb2 (List.mem_of_getElem? (i := 202) rfl)) rfl
theorem kw_225 : (Cond.methodLink RL 7 yX5_turned) ∈ WW := wwOf (tb2 (List.mem_of_getElem? (i := 204) rfl)) rfl
theorem kw_226 : (Cond.instanceMethod yX5_turned) ∈ WW := wwOf (tb2 (List.mem_of_getElem? (i := 205) rfl)) rfl
theorem kw_227 : (Cond.selects RX5 yX5_turned yX5_turned) ∈ WW := wwOf (tb2 (List.mem_of_getElem? (i := 206) rfl)) rfl
theorem kw_228 : (Cond.code yX5_turned prog_1_method_17_code 3 (Option.some Jvm.ClassFile.FieldType.int)) ∈ WW := wwOf (tb2 (List.mem_of_getElem? (i := 207) rfl)) rfl
theorem kw_229 : (Cond.classLink RL 13 "java/util/NoSuchElementException") ∈ WW := wwOf (tb2 (List.mem_of_getElem? (i := 203) rfl)) rfl
theorem kw_230 : (Cond.instantiable RX5 11) ∈ WW := wwOf (tb1 (List.mem_of_getElem? (i := 15) rfl)) rfl
theorem kw_231 : (Cond.instantiable RX6 43) ∈ WW := wwOf (tb3 (List.mem_of_getElem? (i := 36) rfl)) rfl
theorem kw_232 : (Cond.classLink RL 8 RX5) ∈ WW := wwOf (tb1 (List.mem_of_getElem? (i := 14) rfl)) rfl
theorem kw_233 : (Cond.code yX5_init prog_1_method_1_code 2 (Option.none : Option Jvm.ClassFile.FieldType)) ∈ WW := wwOf (tb1 (List.mem_of_getElem? (i := 18) rfl)) rfl
theorem kw_234 : (Cond.methodLink RL 15 yX5_init) ∈ WW := wwOf (tb1 (List.mem_of_getElem? (i := 16) rfl)) rfl
theorem kw_235 : (Cond.instanceMethod yX5_init) ∈ WW := wwOf (tb1 (List.mem_of_getElem? (i := 17) rfl)) rfl
theorem kw_236 : (Cond.classLink RL 16 RX6) ∈ WW := wwOf (tb3 (List.mem_of_getElem? (i := 35) rfl)) rfl
theorem kw_237 : (Cond.code yX6_init prog_8_method_1_code 2 (Option.none : Option Jvm.ClassFile.FieldType)) ∈ WW := wwOf (tb3 (List.mem_of_getElem? (i := 39) rfl)) rfl
theorem kw_238 : (Cond.methodLink RL 18 yX6_init) ∈ WW := wwOf (tb3 (List.mem_of_getElem? (i := 37) rfl)) rfl
theorem kw_239 : (Cond.instanceMethod yX6_init) ∈ WW := wwOf (tb3 (List.mem_of_getElem? (i := 38) rfl)) rfl
theorem kw_240 : (Cond.arrayClass Jvm.ClassFile.FieldType.long) ∈ WW := wwOf (tb4 (List.mem_of_getElem? (i := 77) rfl)) rfl
theorem kw_241 : (Cond.code yX5_secret prog_1_method_2_code 6 (Option.some Jvm.ClassFile.FieldType.int)) ∈ WW := wwOf (tb1 (List.mem_of_getElem? (i := 194) rfl)) rfl
theorem kw_242 : (Cond.methodLink RL 19 yX5_secret) ∈ WW := wwOf (tb1 (List.mem_of_getElem? (i := 191) rfl)) rfl
theorem kw_243 : (Cond.instanceMethod yX5_secret) ∈ WW := wwOf (tb1 (List.mem_of_getElem? (i := 192) rfl)) rfl
theorem kw_244 : (Cond.selects RX5 yX5_secret yX5_secret) ∈ WW := wwOf (tb1 (List.mem_of_getElem? (i := 193) rfl)) rfl
theorem kw_245 : (Cond.code yX6_secret prog_8_method_6_code 7 (Option.some Jvm.ClassFile.FieldType.int)) ∈ WW := wwOf (tb3 (List.mem_of_getElem? (i := 179) rfl)) rfl
theorem kw_246 : (Cond.methodLink RL 23 yX6_secret) ∈ WW := wwOf (tb3 (List.mem_of_getElem? (i := 176) rfl)) rfl
theorem kw_247 : (Cond.instanceMethod yX6_secret) ∈ WW := wwOf (tb3 (List.mem_of_getElem? (i := 177) rfl)) rfl
theorem kw_248 : (Cond.selects RX6 yX6_secret yX6_secret) ∈ WW := wwOf (tb3 (List.mem_of_getElem? (i := 178) rfl)) rfl
theorem kw_249 : (Cond.code yX5_needs prog_1_method_3_code 4 (Option.some Jvm.ClassFile.FieldType.boolean)) ∈ WW := wwOf (tb1 (List.mem_of_getElem? (i := 202) rfl)) rfl
theorem kw_250 : (Cond.methodLink RL 24 yX5_needs) ∈ WW := wwOf (tb1 (List.mem_of_getElem? (i := 199) rfl)) rfl
theorem kw_251 : (Cond.instanceMethod yX5_needs) ∈ WW := wwOf (tb1 (List.mem_of_getElem? (i := 200) rfl)) rfl
theorem kw_252 : (Cond.selects RX5 yX5_needs yX5_needs) ∈ WW := wwOf (tb1 (List.mem_of_getElem? (i := 201) rfl)) rfl
theorem kw_253 : (Cond.code yX6_needs prog_8_method_8_code 4 (Option.some Jvm.ClassFile.FieldType.boolean)) ∈ WW := wwOf (tb3 (List.mem_of_getElem? (i := 186) rfl)) rfl
theorem kw_254 : (Cond.methodLink RL 28 yX6_needs) ∈ WW := wwOf (tb3 (List.mem_of_getElem? (i := 183) rfl)) rfl
theorem kw_255 : (Cond.instanceMethod yX6_needs) ∈ WW := wwOf (tb3 (List.mem_of_getElem? (i := 184) rfl)) rfl
theorem kw_256 : (Cond.selects RX6 yX6_needs yX6_needs) ∈ WW := wwOf (tb3 (List.mem_of_getElem? (i := 185) rfl)) rfl
theorem kw_257 : (Cond.code yX5_delay prog_1_method_4_code 3 (Option.some Jvm.ClassFile.FieldType.boolean)) ∈ WW := wwOf (tb1 (List.mem_of_getElem? (i := 225) rfl)) rfl
theorem kw_258 : (Cond.methodLink RL 29 yX5_delay) ∈ WW := wwOf (tb1 (List.mem_of_getElem? (i := 222) rfl)) rfl
theorem kw_259 : (Cond.instanceMethod yX5_delay) ∈ WW := wwOf (tb1 (List.mem_of_getElem? (i := 223) rfl)) rfl
theorem kw_260 : (Cond.selects RX5 yX5_delay yX5_delay) ∈ WW := wwOf (tb1 (List.mem_of_getElem? (i := 224) rfl)) rfl
theorem kw_261 : (Cond.code yX6_delay prog_8_method_11_code 3 (Option.some Jvm.ClassFile.FieldType.boolean)) ∈ WW := wwOf (tb3 (List.mem_of_getElem? (i := 206) rfl)) rfl
theorem kw_262 : (Cond.methodLink RL 33 yX6_delay) ∈ WW := wwOf (tb3 (List.mem_of_getElem? (i := 203) rfl)) rfl
theorem kw_263 : (Cond.instanceMethod yX6_delay) ∈ WW := wwOf (tb3 (List.mem_of_getElem? (i := 204) rfl)) rfl
theorem kw_264 : (Cond.selects RX6 yX6_delay yX6_delay) ∈ WW := wwOf (tb3 (List.mem_of_getElem? (i := 205) rfl)) rfl
theorem kw_265 : (Cond.code yX5_quiet prog_1_method_5_code 3 (Option.some Jvm.ClassFile.FieldType.boolean)) ∈ WW := wwOf (tb1 (List.mem_of_getElem? (i := 229) rfl)) rfl
theorem kw_266 : (Cond.methodLink RL 34 yX5_quiet) ∈ WW := wwOf (tb1 (List.mem_of_getElem? (i := 226) rfl)) rfl
theorem kw_267 : (Cond.instanceMethod yX5_quiet) ∈ WW := wwOf (tb1 (List.mem_of_getElem? (i := 227) rfl)) rfl
theorem kw_268 : (Cond.selects RX5 yX5_quiet yX5_quiet) ∈ WW := wwOf (tb1 (List.mem_of_getElem? (i := 228) rfl)) rfl
theorem kw_269 : (Cond.code yX6_quiet prog_8_method_12_code 3 (Option.some Jvm.ClassFile.FieldType.boolean)) ∈ WW := wwOf (tb3 (List.mem_of_getElem? (i := 210) rfl)) rfl
theorem kw_270 : (Cond.methodLink RL 37 yX6_quiet) ∈ WW := wwOf (tb3 (List.mem_of_getElem? (i := 207) rfl)) rfl
theorem kw_271 : (Cond.instanceMethod yX6_quiet) ∈ WW := wwOf (tb3 (List.mem_of_getElem? (i := 208) rfl)) rfl
theorem kw_272 : (Cond.selects RX6 yX6_quiet yX6_quiet) ∈ WW := wwOf (tb3 (List.mem_of_getElem? (i := 209) rfl)) rfl
theorem kw_273 : (Cond.code yX5_down prog_1_method_6_code 3 (Option.some Jvm.ClassFile.FieldType.boolean)) ∈ WW := wwOf (tb1 (List.mem_of_getElem? (i := 233) rfl)) rfl
theorem kw_274 : (Cond.methodLink RL 38 yX5_down) ∈ WW := wwOf (tb1 (List.mem_of_getElem? (i := 230) rfl)) rfl
theorem kw_275 : (Cond.instanceMethod yX5_down) ∈ WW := wwOf (tb1 (List.mem_of_getElem? (i := 231) rfl)) rfl
theorem kw_276 : (Cond.selects RX5 yX5_down yX5_down) ∈ WW := wwOf (tb1 (List.mem_of_getElem? (i := 232) rfl)) rfl
theorem kw_277 : (Cond.code yX6_down prog_8_method_13_code 3 (Option.some Jvm.ClassFile.FieldType.boolean)) ∈ WW := wwOf (tb3 (List.mem_of_getElem? (i := 214) rfl)) rfl
theorem kw_278 : (Cond.methodLink RL 42 yX6_down) ∈ WW := wwOf (tb3 (List.mem_of_getElem? (i := 211) rfl)) rfl
theorem kw_279 : (Cond.instanceMethod yX6_down) ∈ WW := wwOf (tb3 (List.mem_of_getElem? (i := 212) rfl)) rfl
theorem kw_280 : (Cond.selects RX6 yX6_down yX6_down) ∈ WW := wwOf (tb3 (List.mem_of_getElem? (i := 213) rfl)) rfl
theorem kw_281 : (Cond.code yX5_turn prog_1_method_7_code 2 (Option.some Jvm.ClassFile.FieldType.int)) ∈ WW := wwOf (tb2 (List.mem_of_getElem? (i := 1) rfl)) rfl
theorem kw_282 : (Cond.methodLink RL 43 yX5_turn) ∈ WW := wwOf (tb1 (List.mem_of_getElem? (i := 238) rfl)) rfl
theorem kw_283 : (Cond.instanceMethod yX5_turn) ∈ WW := wwOf (tb1 (List.mem_of_getElem? (i := 239) rfl)) rfl
theorem kw_284 : (Cond.selects RX5 yX5_turn yX5_turn) ∈ WW := wwOf (tb2 (List.mem_of_getElem? (i := 0) rfl)) rfl
theorem kw_285 : (Cond.code yX6_turn prog_8_method_23_code 3 (Option.some Jvm.ClassFile.FieldType.int)) ∈ WW := wwOf (tb4 (List.mem_of_getElem? (i := 15) rfl)) rfl
theorem kw_286 : (Cond.methodLink RL 47 yX6_turn) ∈ WW := wwOf (tb4 (List.mem_of_getElem? (i := 12) rfl)) rfl
theorem kw_287 : (Cond.instanceMethod yX6_turn) ∈ WW := wwOf (tb4 (List.mem_of_getElem? (i := 13) rfl)) rfl
theorem kw_288 : (Cond.selects RX6 yX6_turn yX6_turn) ∈ WW := wwOf (tb4 (List.mem_of_getElem? (i := 14) rfl)) rfl
theorem kw_289 : (Cond.code yX5_stolen prog_1_method_8_code 3 (Option.some Jvm.ClassFile.FieldType.int)) ∈ WW := wwOf (tb2 (List.mem_of_getElem? (i := 45) rfl)) rfl
theorem kw_290 : (Cond.methodLink RL 48 yX5_stolen) ∈ WW := wwOf (tb2 (List.mem_of_getElem? (i := 42) rfl)) rfl
theorem kw_291 : (Cond.instanceMethod yX5_stolen) ∈ WW := wwOf (tb2 (List.mem_of_getElem? (i := 43) rfl)) rfl
theorem kw_292 : (Cond.selects RX5 yX5_stolen yX5_stolen) ∈ WW := wwOf (tb2 (List.mem_of_getElem? (i := 44) rfl)) rfl
theorem kw_293 : (Cond.code yX6_stolen prog_8_method_24_code 2 (Option.some Jvm.ClassFile.FieldType.int)) ∈ WW := wwOf (tb4 (List.mem_of_getElem? (i := 23) rfl)) rfl
theorem kw_294 : (Cond.methodLink RL 51 yX6_stolen) ∈ WW := wwOf (tb4 (List.mem_of_getElem? (i := 20) rfl)) rfl
theorem kw_295 : (Cond.instanceMethod yX6_stolen) ∈ WW := wwOf (tb4 (List.mem_of_getElem? (i := 21) rfl)) rfl
theorem kw_296 : (Cond.selects RX6 yX6_stolen yX6_stolen) ∈ WW := wwOf (tb4 (List.mem_of_getElem? (i := 22) rfl)) rfl
theorem kw_297 : (Cond.code yX5_tick prog_1_method_9_code 5 (Option.some Jvm.ClassFile.FieldType.int)) ∈ WW := wwOf (tb2 (List.mem_of_getElem? (i := 57) rfl)) rfl
theorem kw_298 : (Cond.methodLink RL 52 yX5_tick) ∈ WW := wwOf (tb2 (List.mem_of_getElem? (i := 54) rfl)) rfl
theorem kw_299 : (Cond.instanceMethod yX5_tick) ∈ WW := wwOf (tb2 (List.mem_of_getElem? (i := 55) rfl)) rfl
theorem kw_300 : (Cond.selects RX5 yX5_tick yX5_tick) ∈ WW := wwOf (tb2 (List.mem_of_getElem? (i := 56) rfl)) rfl
theorem kw_301 : (Cond.code yX6_tick prog_8_method_21_code 4 (Option.some Jvm.ClassFile.FieldType.int)) ∈ WW := wwOf (tb3 (List.mem_of_getElem? (i := 218) rfl)) rfl
theorem kw_302 : (Cond.methodLink RL 55 yX6_tick) ∈ WW := wwOf (tb3 (List.mem_of_getElem? (i := 215) rfl)) rfl
theorem kw_303 : (Cond.instanceMethod yX6_tick) ∈ WW := wwOf (tb3 (List.mem_of_getElem? (i := 216) rfl)) rfl
theorem kw_304 : (Cond.selects RX6 yX6_tick yX6_tick) ∈ WW := wwOf (tb3 (List.mem_of_getElem? (i := 217) rfl)) rfl
theorem kw_305 : (Cond.code yX5_ask prog_1_method_10_code 7 (Option.some Jvm.ClassFile.FieldType.int)) ∈ WW := wwOf (tb2 (List.mem_of_getElem? (i := 111) rfl)) rfl
theorem kw_306 : (Cond.methodLink RL 56 yX5_ask) ∈ WW := wwOf (tb2 (List.mem_of_getElem? (i := 108) rfl)) rfl
theorem kw_307 : (Cond.instanceMethod yX5_ask) ∈ WW := wwOf (tb2 (List.mem_of_getElem? (i := 109) rfl)) rfl
theorem kw_308 : (Cond.selects RX5 yX5_ask yX5_ask) ∈ WW := wwOf (tb2 (List.mem_of_getElem? (i := 110) rfl)) rfl
theorem kw_309 : (Cond.code yX6_ask prog_8_method_29_code 4 (Option.some Jvm.ClassFile.FieldType.int)) ∈ WW := wwOf (tb4 (List.mem_of_getElem? (i := 27) rfl)) rfl
theorem kw_310 : (Cond.methodLink RL 60 yX6_ask) ∈ WW := wwOf (tb4 (List.mem_of_getElem? (i := 24) rfl)) rfl
theorem kw_311 : (Cond.instanceMethod yX6_ask) ∈ WW := wwOf (tb4 (List.mem_of_getElem? (i := 25) rfl)) rfl
theorem kw_312 : (Cond.selects RX6 yX6_ask yX6_ask) ∈ WW := wwOf (tb4 (List.mem_of_getElem? (i := 26) rfl)) rfl
theorem kw_313 : (Cond.code yX5_stranger prog_1_method_11_code 6 (Option.some Jvm.ClassFile.FieldType.int)) ∈ WW := wwOf (tb2 (List.mem_of_getElem? (i := 137) rfl)) rfl
theorem kw_314 : (Cond.methodLink RL 61 yX5_stranger) ∈ WW := wwOf (tb2 (List.mem_of_getElem? (i := 134) rfl)) rfl
theorem kw_315 : (Cond.instanceMethod yX5_stranger) ∈ WW := wwOf (tb2 (List.mem_of_getElem? (i := 135) rfl)) rfl
theorem kw_316 : (Cond.selects RX5 yX5_stranger yX5_stranger) ∈ WW := wwOf (tb2 (List.mem_of_getElem? (i := 136) rfl)) rfl
theorem kw_317 : (Cond.code yX6_stranger prog_8_method_30_code 5 (Option.some Jvm.ClassFile.FieldType.int)) ∈ WW := wwOf (tb4 (List.mem_of_getElem? (i := 47) rfl)) rfl
theorem kw_318 : (Cond.methodLink RL 64 yX6_stranger) ∈ WW := wwOf (tb4 (List.mem_of_getElem? (i := 44) rfl)) rfl
theorem kw_319 : (Cond.instanceMethod yX6_stranger) ∈ WW := wwOf (tb4 (List.mem_of_getElem? (i := 45) rfl)) rfl
theorem kw_320 : (Cond.selects RX6 yX6_stranger yX6_stranger) ∈ WW := wwOf (tb4 (List.mem_of_getElem? (i := 46) rfl)) rfl
theorem kw_321 : (Cond.code yX5_told prog_1_method_12_code 5 (Option.some Jvm.ClassFile.FieldType.int)) ∈ WW := wwOf (tb2 (List.mem_of_getElem? (i := 141) rfl)) rfl
theorem kw_322 : (Cond.methodLink RL 65 yX5_told) ∈ WW := wwOf (tb2 (List.mem_of_getElem? (i := 138) rfl)) rfl
theorem kw_323 : (Cond.instanceMethod yX5_told) ∈ WW := wwOf (tb2 (List.mem_of_getElem? (i := 139) rfl)) rfl
theorem kw_324 : (Cond.selects RX5 yX5_told yX5_told) ∈ WW := wwOf (tb2 (List.mem_of_getElem? (i := 140) rfl)) rfl
theorem kw_325 : (Cond.code yX6_told prog_8_method_33_code 3 (Option.some Jvm.ClassFile.FieldType.int)) ∈ WW := wwOf (tb4 (List.mem_of_getElem? (i := 51) rfl)) rfl
theorem kw_326 : (Cond.methodLink RL 68 yX6_told) ∈ WW := wwOf (tb4 (List.mem_of_getElem? (i := 48) rfl)) rfl
theorem kw_327 : (Cond.instanceMethod yX6_told) ∈ WW := wwOf (tb4 (List.mem_of_getElem? (i := 49) rfl)) rfl
theorem kw_328 : (Cond.selects RX6 yX6_told yX6_told) ∈ WW := wwOf (tb4 (List.mem_of_getElem? (i := 50) rfl)) rfl
theorem kw_329 : (Cond.code yX5_has prog_1_method_13_code 3 (Option.some Jvm.ClassFile.FieldType.int)) ∈ WW := wwOf (tb2 (List.mem_of_getElem? (i := 163) rfl)) rfl
theorem kw_330 : (Cond.methodLink RL 69 yX5_has) ∈ WW := wwOf (tb2 (List.mem_of_getElem? (i := 160) rfl)) rfl
theorem kw_331 : (Cond.instanceMethod yX5_has) ∈ WW := wwOf (tb2 (List.mem_of_getElem? (i := 161) rfl)) rfl
theorem kw_332 : (Cond.selects RX5 yX5_has yX5_has) ∈ WW := wwOf (tb2 (List.mem_of_getElem? (i := 162) rfl)) rfl
theorem kw_333 : (Cond.code yX6_has prog_8_method_34_code 3 (Option.some Jvm.ClassFile.FieldType.int)) ∈ WW := wwOf (tb4 (List.mem_of_getElem? (i := 64) rfl)) rfl
theorem kw_334 : (Cond.methodLink RL 72 yX6_has) ∈ WW := wwOf (tb4 (List.mem_of_getElem? (i := 61) rfl)) rfl
theorem kw_335 : (Cond.instanceMethod yX6_has) ∈ WW := wwOf (tb4 (List.mem_of_getElem? (i := 62) rfl)) rfl
theorem kw_336 : (Cond.selects RX6 yX6_has yX6_has) ∈ WW := wwOf (tb4 (List.mem_of_getElem? (i := 63) rfl)) rfl
theorem kw_337 : (Cond.code yX5_good prog_1_method_14_code 4 (Option.some Jvm.ClassFile.FieldType.int)) ∈ WW := wwOf (tb2 (List.mem_of_getElem? (i := 167) rfl)) rfl
theorem kw_338 : (Cond.methodLink RL 73 yX5_good) ∈ WW := wwOf (tb2 (List.mem_of_getElem? (i := 164) rfl)) rfl
theorem kw_339 : (Cond.instanceMethod yX5_good) ∈ WW := wwOf (tb2 (List.mem_of_getElem? (i := 165) rfl)) rfl
theorem kw_340 : (Cond.selects RX5 yX5_good yX5_good) ∈ WW := wwOf (tb2 (List.mem_of_getElem? (i := 166) rfl)) rfl
theorem kw_341 : (Cond.code yX6_good prog_8_method_35_code 4 (Option.some Jvm.ClassFile.FieldType.int)) ∈ WW := wwOf (tb4 (List.mem_of_getElem? (i := 68) rfl)) rfl
theorem kw_342 : (Cond.methodLink RL 76 yX6_good) ∈ WW := wwOf (tb4 (List.mem_of_getElem? (i := 65) rfl)) rfl
theorem kw_343 : (Cond.instanceMethod yX6_good) ∈ WW := wwOf (tb4 (List.mem_of_getElem? (i := 66) rfl)) rfl
theorem kw_344 : (Cond.selects RX6 yX6_good yX6_good) ∈ WW := wwOf (tb4 (List.mem_of_getElem? (i := 67) rfl)) rfl
theorem kw_345 : (Cond.code yX5_plan prog_1_method_15_code 5 (Option.some Jvm.ClassFile.FieldType.int)) ∈ WW := wwOf (tb2 (List.mem_of_getElem? (i := 171) rfl)) rfl
theorem kw_346 : (Cond.methodLink RL 77 yX5_plan) ∈ WW := wwOf (tb2 (List.mem_of_getElem? (i := 168) rfl)) rfl
theorem kw_347 : (Cond.instanceMethod yX5_plan) ∈ WW := wwOf (tb2 (List.mem_of_getElem? (i := 169) rfl)) rfl
theorem kw_348 : (Cond.selects RX5 yX5_plan yX5_plan) ∈ WW := wwOf (tb2 (List.mem_of_getElem? (i := 170) rfl)) rfl
theorem kw_349 : (Cond.code yX6_plan prog_8_method_10_code 7 (Option.some Jvm.ClassFile.FieldType.int)) ∈ WW := wwOf (tb3 (List.mem_of_getElem? (i := 202) rfl)) rfl
theorem kw_350 : (Cond.methodLink RL 80 yX6_plan) ∈ WW := wwOf (tb3 (List.mem_of_getElem? (i := 199) rfl)) rfl
theorem kw_351 : (Cond.instanceMethod yX6_plan) ∈ WW := wwOf (tb3 (List.mem_of_getElem? (i := 200) rfl)) rfl
theorem kw_352 : (Cond.selects RX6 yX6_plan yX6_plan) ∈ WW := wwOf (tb3 (List.mem_of_getElem? (i := 201) rfl)) rfl
theorem kw_353 : (Cond.code yX5_hangs prog_1_method_16_code 3 (Option.some Jvm.ClassFile.FieldType.boolean)) ∈ WW := wwOf (tb2 (List.mem_of_getElem? (i := 183) rfl)) rfl
theorem kw_354 : (Cond.methodLink RL 81 yX5_hangs) ∈ WW := wwOf (tb2 (List.mem_of_getElem? (i := 180) rfl)) rfl
theorem kw_355 : (Cond.instanceMethod yX5_hangs) ∈ WW := wwOf (tb2 (List.mem_of_getElem? (i := 181) rfl)) rfl
theorem kw_356 : (Cond.selects RX5 yX5_hangs yX5_hangs) ∈ WW := wwOf (tb2 (List.mem_of_getElem? (i := 182) rfl)) rfl
theorem kw_357 : (Cond.code yX6_hangs prog_8_method_9_code 3 (Option.some Jvm.ClassFile.FieldType.boolean)) ∈ WW := wwOf (tb3 (List.mem_of_getElem? (i := 198) rfl)) rfl
theorem kw_358 : (Cond.methodLink RL 84 yX6_hangs) ∈ WW := wwOf (tb3 (List.mem_of_getElem? (i := 195) rfl)) rfl
theorem kw_359 : (Cond.instanceMethod yX6_hangs) ∈ WW := wwOf (tb3 (List.mem_of_getElem? (i := 196) rfl)) rfl
theorem kw_360 : (Cond.selects RX6 yX6_hangs yX6_hangs) ∈ WW := wwOf (tb3 (List.mem_of_getElem? (i := 197) rfl)) rfl
theorem kw_361 : (Cond.methodLink RL 85 yL_turned) ∈ WW := wwOf (tb2 (List.mem_of_getElem? (i := 200) rfl)) rfl
theorem kw_362 : (Cond.static yL_turned) ∈ WW := wwOf (tb2 (List.mem_of_getElem? (i := 201) rfl)) rfl
theorem kw_363 : (Cond.initialized RL) ∈ WW := wwOf (tb1 (List.mem_of_getElem? (i := 0) rfl)) rfl
theorem kw_364 : (Cond.code yX6_turned prog_8_method_36_code 3 (Option.some Jvm.ClassFile.FieldType.int)) ∈ WW := wwOf (tb4 (List.mem_of_getElem? (i := 72) rfl)) rfl
theorem kw_365 : (Cond.methodLink RL 90 yX6_turned) ∈ WW := wwOf (tb4 (List.mem_of_getElem? (i := 69) rfl)) rfl
theorem kw_366 : (Cond.instanceMethod yX6_turned) ∈ WW := wwOf (tb4 (List.mem_of_getElem? (i := 70) rfl)) rfl
theorem kw_367 : (Cond.selects RX6 yX6_turned yX6_turned) ∈ WW := wwOf (tb4 (List.mem_of_getElem? (i := 71) rfl)) rfl
theorem kw_368 : (Cond.code yX6_thrown prog_8_method_2_code 1 (Option.some Jvm.ClassFile.FieldType.int)) ∈ WW := wwOf (tb3 (List.mem_of_getElem? (i := 175) rfl)) rfl
theorem kw_369 : (Cond.methodLink RL 91 yX6_thrown) ∈ WW := wwOf (tb3 (List.mem_of_getElem? (i := 172) rfl)) rfl
theorem kw_370 : (Cond.instanceMethod yX6_thrown) ∈ WW := wwOf (tb3 (List.mem_of_getElem? (i := 173) rfl)) rfl
theorem kw_371 : (Cond.selects RX6 yX6_thrown yX6_thrown) ∈ WW := wwOf (tb3 (List.mem_of_getElem? (i := 174) rfl)) rfl
theorem kw_372 : (Cond.code yX5_count prog_1_method_18_code 2 (Option.some Jvm.ClassFile.FieldType.int)) ∈ WW := wwOf (tb2 (List.mem_of_getElem? (i := 187) rfl)) rfl
theorem kw_373 : (Cond.methodLink RL 95 yX5_count) ∈ WW := wwOf (tb2 (List.mem_of_getElem? (i := 184) rfl)) rfl
theorem kw_374 : (Cond.instanceMethod yX5_count) ∈ WW := wwOf (tb2 (List.mem_of_getElem? (i := 185) rfl)) rfl
theorem kw_375 : (Cond.selects RX5 yX5_count yX5_count) ∈ WW := wwOf (tb2 (List.mem_of_getElem? (i := 186) rfl)) rfl
theorem kw_376 : (Cond.code yX6_count prog_8_method_37_code 4 (Option.some Jvm.ClassFile.FieldType.int)) ∈ WW := wwOf (tb4 (List.mem_of_getElem? (i := 76) rfl)) rfl
theorem kw_377 : (Cond.methodLink RL 98 yX6_count) ∈ WW := wwOf (tb4 (List.mem_of_getElem? (i := 73) rfl)) rfl
theorem kw_378 : (Cond.instanceMethod yX6_count) ∈ WW := wwOf (tb4 (List.mem_of_getElem? (i := 74) rfl)) rfl
theorem kw_379 : (Cond.selects RX6 yX6_count yX6_count) ∈ WW := wwOf (tb4 (List.mem_of_getElem? (i := 75) rfl)) rfl
theorem lyX0_0 : u_lay RX0 TX0 0 ∈ WW := wwOf (tb1 (List.mem_of_getElem? (i := 138) rfl)) rfl
theorem lyX0_1 : u_lay RX0 TX0 1 ∈ WW := wwOf (tb1 (List.mem_of_getElem? (i := 140) rfl)) rfl
theorem lyX0_2 : u_lay RX0 TX0 2 ∈ WW := wwOf (tb1 (List.mem_of_getElem? (i := 142) rfl)) rfl
theorem lyX0_3 : u_lay RX0 TX0 3 ∈ WW := wwOf (tb1 (List.mem_of_getElem? (i := 144) rfl)) rfl
theorem lyX0_4 : u_lay RX0 TX0 4 ∈ WW := wwOf (tb1 (List.mem_of_getElem? (i := 146) rfl)) rfl
theorem lyX0_5 : u_lay RX0 TX0 5 ∈ WW := wwOf (tb1 (List.mem_of_getElem? (i := 148) rfl)) rfl
theorem lyX0_6 : u_lay RX0 TX0 6 ∈ WW := wwOf (tb1 (List.mem_of_getElem? (i := 150) rfl)) rfl
theorem lyX0_7 : u_lay RX0 TX0 7 ∈ WW := wwOf (tb1 (List.mem_of_getElem? (i := 152) rfl)) rfl
theorem lyX0_8 : u_lay RX0 TX0 8 ∈ WW := wwOf (tb1 (List.mem_of_getElem? (i := 154) rfl)) rfl
theorem inWX0 : ∀ w ∈ u_ws RX0 TX0 9, w ∈ WW := by
  intro w h
  obtain ⟨k, hk, rfl⟩ := List.mem_map.mp h
  have hk := List.mem_range.mp hk
  match k, hk with
  | 0, _ => exact lyX0_0
  | 1, _ => exact lyX0_1
  | 2, _ => exact lyX0_2
  | 3, _ => exact lyX0_3
  | 4, _ => exact lyX0_4
  | 5, _ => exact lyX0_5
  | 6, _ => exact lyX0_6
  | 7, _ => exact lyX0_7
  | 8, _ => exact lyX0_8
  | k + 9, h => exact absurd h (by omega)
theorem lyX1_0 : u_lay RX1 TX1 0 ∈ WW := wwOf (tb1 (List.mem_of_getElem? (i := 64) rfl)) rfl
theorem lyX1_1 : u_lay RX1 TX1 1 ∈ WW := wwOf (tb1 (List.mem_of_getElem? (i := 66) rfl)) rfl
theorem inWX1 : ∀ w ∈ u_ws RX1 TX1 2, w ∈ WW := by
  intro w h
  obtain ⟨k, hk, rfl⟩ := List.mem_map.mp h
  have hk := List.mem_range.mp hk
  match k, hk with
  | 0, _ => exact lyX1_0
  | 1, _ => exact lyX1_1
  | k + 2, h => exact absurd h (by omega)
theorem lyX2_0 : u_lay RX2 TX2 0 ∈ WW := wwOf (tb1 (List.mem_of_getElem? (i := 49) rfl)) rfl
theorem lyX2_1 : u_lay RX2 TX2 1 ∈ WW := wwOf (tb1 (List.mem_of_getElem? (i := 51) rfl)) rfl
theorem inWX2 : ∀ w ∈ u_ws RX2 TX2 2, w ∈ WW := by
  intro w h
  obtain ⟨k, hk, rfl⟩ := List.mem_map.mp h
  have hk := List.mem_range.mp hk
  match k, hk with
  | 0, _ => exact lyX2_0
  | 1, _ => exact lyX2_1
  | k + 2, h => exact absurd h (by omega)
theorem lyX3_0 : u_lay RX3 TX3 0 ∈ WW := wwOf (tb1 (List.mem_of_getElem? (i := 103) rfl)) rfl
theorem lyX3_1 : u_lay RX3 TX3 1 ∈ WW := wwOf (tb1 (List.mem_of_getElem? (i := 105) rfl)) rfl
theorem lyX3_2 : u_lay RX3 TX3 2 ∈ WW := wwOf (tb1 (List.mem_of_getElem? (i := 107) rfl)) rfl
theorem lyX3_3 : u_lay RX3 TX3 3 ∈ WW := wwOf (tb1 (List.mem_of_getElem? (i := 109) rfl)) rfl
theorem lyX3_4 : u_lay RX3 TX3 4 ∈ WW := wwOf (tb1 (List.mem_of_getElem? (i := 111) rfl)) rfl
theorem lyX3_5 : u_lay RX3 TX3 5 ∈ WW := wwOf (tb1 (List.mem_of_getElem? (i := 113) rfl)) rfl
theorem lyX3_6 : u_lay RX3 TX3 6 ∈ WW := wwOf (tb1 (List.mem_of_getElem? (i := 115) rfl)) rfl
theorem lyX3_7 : u_lay RX3 TX3 7 ∈ WW := wwOf (tb1 (List.mem_of_getElem? (i := 117) rfl)) rfl
theorem lyX3_8 : u_lay RX3 TX3 8 ∈ WW := wwOf (tb1 (List.mem_of_getElem? (i := 119) rfl)) rfl
theorem lyX3_9 : u_lay RX3 TX3 9 ∈ WW := wwOf (tb1 (List.mem_of_getElem? (i := 121) rfl)) rfl
theorem inWX3 : ∀ w ∈ u_ws RX3 TX3 10, w ∈ WW := by
  intro w h
  obtain ⟨k, hk, rfl⟩ := List.mem_map.mp h
  have hk := List.mem_range.mp hk
  match k, hk with
  | 0, _ => exact lyX3_0
  | 1, _ => exact lyX3_1
  | 2, _ => exact lyX3_2
  | 3, _ => exact lyX3_3
  | 4, _ => exact lyX3_4
  | 5, _ => exact lyX3_5
  | 6, _ => exact lyX3_6
  | 7, _ => exact lyX3_7
  | 8, _ => exact lyX3_8
  | 9, _ => exact lyX3_9
  | k + 10, h => exact absurd h (by omega)
theorem lyX4_0 : u_lay RX4 TX4 0 ∈ WW := wwOf (tb1 (List.mem_of_getElem? (i := 34) rfl)) rfl
theorem inWX4 : ∀ w ∈ u_ws RX4 TX4 1, w ∈ WW := by
  intro w h
  obtain ⟨k, hk, rfl⟩ := List.mem_map.mp h
  have hk := List.mem_range.mp hk
  match k, hk with
  | 0, _ => exact lyX4_0
  | k + 1, h => exact absurd h (by omega)
theorem lyX5_0 : u_lay RX5 TX5 0 ∈ WW := wwOf (tb1 (List.mem_of_getElem? (i := 168) rfl)) rfl
theorem lyX5_1 : u_lay RX5 TX5 1 ∈ WW := wwOf (tb1 (List.mem_of_getElem? (i := 170) rfl)) rfl
theorem lyX5_2 : u_lay RX5 TX5 2 ∈ WW := wwOf (tb1 (List.mem_of_getElem? (i := 172) rfl)) rfl
theorem lyX5_3 : u_lay RX5 TX5 3 ∈ WW := wwOf (tb1 (List.mem_of_getElem? (i := 174) rfl)) rfl
theorem lyX5_4 : u_lay RX5 TX5 4 ∈ WW := wwOf (tb1 (List.mem_of_getElem? (i := 176) rfl)) rfl
theorem lyX5_5 : u_lay RX5 TX5 5 ∈ WW := wwOf (tb1 (List.mem_of_getElem? (i := 178) rfl)) rfl
theorem lyX5_6 : u_lay RX5 TX5 6 ∈ WW := wwOf (tb1 (List.mem_of_getElem? (i := 180) rfl)) rfl
theorem lyX5_7 : u_lay RX5 TX5 7 ∈ WW := wwOf (tb1 (List.mem_of_getElem? (i := 182) rfl)) rfl
theorem lyX5_8 : u_lay RX5 TX5 8 ∈ WW := wwOf (tb1 (List.mem_of_getElem? (i := 184) rfl)) rfl
theorem lyX5_9 : u_lay RX5 TX5 9 ∈ WW := wwOf (tb1 (List.mem_of_getElem? (i := 186) rfl)) rfl
theorem lyX5_10 : u_lay RX5 TX5 10 ∈ WW := wwOf (tb1 (List.mem_of_getElem? (i := 188) rfl)) rfl
theorem inWX5 : ∀ w ∈ u_ws RX5 TX5 11, w ∈ WW := by
  intro w h
  obtain ⟨k, hk, rfl⟩ := List.mem_map.mp h
  have hk := List.mem_range.mp hk
  match k, hk with
  | 0, _ => exact lyX5_0
  | 1, _ => exact lyX5_1
  | 2, _ => exact lyX5_2
  | 3, _ => exact lyX5_3
  | 4, _ => exact lyX5_4
  | 5, _ => exact lyX5_5
  | 6, _ => exact lyX5_6
  | 7, _ => exact lyX5_7
  | 8, _ => exact lyX5_8
  | 9, _ => exact lyX5_9
  | 10, _ => exact lyX5_10
  | k + 11, h => exact absurd h (by omega)
theorem lyX6_0 : u_lay RX6 TX6 0 ∈ WW := wwOf (tb3 (List.mem_of_getElem? (i := 84) rfl)) rfl
theorem lyX6_1 : u_lay RX6 TX6 1 ∈ WW := wwOf (tb3 (List.mem_of_getElem? (i := 86) rfl)) rfl
theorem lyX6_2 : u_lay RX6 TX6 2 ∈ WW := wwOf (tb3 (List.mem_of_getElem? (i := 88) rfl)) rfl
theorem lyX6_3 : u_lay RX6 TX6 3 ∈ WW := wwOf (tb3 (List.mem_of_getElem? (i := 90) rfl)) rfl
theorem lyX6_4 : u_lay RX6 TX6 4 ∈ WW := wwOf (tb3 (List.mem_of_getElem? (i := 92) rfl)) rfl
theorem lyX6_5 : u_lay RX6 TX6 5 ∈ WW := wwOf (tb3 (List.mem_of_getElem? (i := 94) rfl)) rfl
theorem lyX6_6 : u_lay RX6 TX6 6 ∈ WW := wwOf (tb3 (List.mem_of_getElem? (i := 96) rfl)) rfl
theorem lyX6_7 : u_lay RX6 TX6 7 ∈ WW := wwOf (tb3 (List.mem_of_getElem? (i := 98) rfl)) rfl
theorem lyX6_8 : u_lay RX6 TX6 8 ∈ WW := wwOf (tb3 (List.mem_of_getElem? (i := 100) rfl)) rfl
theorem lyX6_9 : u_lay RX6 TX6 9 ∈ WW := wwOf (tb3 (List.mem_of_getElem? (i := 102) rfl)) rfl
theorem lyX6_10 : u_lay RX6 TX6 10 ∈ WW := wwOf (tb3 (List.mem_of_getElem? (i := 104) rfl)) rfl
theorem lyX6_11 : u_lay RX6 TX6 11 ∈ WW := wwOf (tb3 (List.mem_of_getElem? (i := 106) rfl)) rfl
theorem lyX6_12 : u_lay RX6 TX6 12 ∈ WW := wwOf (tb3 (List.mem_of_getElem? (i := 108) rfl)) rfl
theorem lyX6_13 : u_lay RX6 TX6 13 ∈ WW := wwOf (tb3 (List.mem_of_getElem? (i := 110) rfl)) rfl
theorem lyX6_14 : u_lay RX6 TX6 14 ∈ WW := wwOf (tb3 (List.mem_of_getElem? (i := 112) rfl)) rfl
theorem lyX6_15 : u_lay RX6 TX6 15 ∈ WW := wwOf (tb3 (List.mem_of_getElem? (i := 114) rfl)) rfl
theorem lyX6_16 : u_lay RX6 TX6 16 ∈ WW := wwOf (tb3 (List.mem_of_getElem? (i := 116) rfl)) rfl
theorem lyX6_17 : u_lay RX6 TX6 17 ∈ WW := wwOf (tb3 (List.mem_of_getElem? (i := 118) rfl)) rfl
theorem lyX6_18 : u_lay RX6 TX6 18 ∈ WW := wwOf (tb3 (List.mem_of_getElem? (i := 120) rfl)) rfl
theorem lyX6_19 : u_lay RX6 TX6 19 ∈ WW := wwOf (tb3 (List.mem_of_getElem? (i := 122) rfl)) rfl
theorem lyX6_20 : u_lay RX6 TX6 20 ∈ WW := wwOf (tb3 (List.mem_of_getElem? (i := 124) rfl)) rfl
theorem lyX6_21 : u_lay RX6 TX6 21 ∈ WW := wwOf (tb3 (List.mem_of_getElem? (i := 126) rfl)) rfl
theorem lyX6_22 : u_lay RX6 TX6 22 ∈ WW := wwOf (tb3 (List.mem_of_getElem? (i := 128) rfl)) rfl
theorem lyX6_23 : u_lay RX6 TX6 23 ∈ WW := wwOf (tb3 (List.mem_of_getElem? (i := 130) rfl)) rfl
theorem lyX6_24 : u_lay RX6 TX6 24 ∈ WW := wwOf (tb3 (List.mem_of_getElem? (i := 132) rfl)) rfl
theorem lyX6_25 : u_lay RX6 TX6 25 ∈ WW := wwOf (tb3 (List.mem_of_getElem? (i := 134) rfl)) rfl
theorem lyX6_26 : u_lay RX6 TX6 26 ∈ WW := wwOf (tb3 (List.mem_of_getElem? (i := 136) rfl)) rfl
theorem lyX6_27 : u_lay RX6 TX6 27 ∈ WW := wwOf (tb3 (List.mem_of_getElem? (i := 138) rfl)) rfl
theorem lyX6_28 : u_lay RX6 TX6 28 ∈ WW := wwOf (tb3 (List.mem_of_getElem? (i := 140) rfl)) rfl
theorem lyX6_29 : u_lay RX6 TX6 29 ∈ WW := wwOf (tb3 (List.mem_of_getElem? (i := 142) rfl)) rfl
theorem lyX6_30 : u_lay RX6 TX6 30 ∈ WW := wwOf (tb3 (List.mem_of_getElem? (i := 144) rfl)) rfl
theorem lyX6_31 : u_lay RX6 TX6 31 ∈ WW := wwOf (tb3 (List.mem_of_getElem? (i := 146) rfl)) rfl
theorem lyX6_32 : u_lay RX6 TX6 32 ∈ WW := wwOf (tb3 (List.mem_of_getElem? (i := 148) rfl)) rfl
theorem lyX6_33 : u_lay RX6 TX6 33 ∈ WW := wwOf (tb3 (List.mem_of_getElem? (i := 150) rfl)) rfl
theorem lyX6_34 : u_lay RX6 TX6 34 ∈ WW := wwOf (tb3 (List.mem_of_getElem? (i := 152) rfl)) rfl
theorem lyX6_35 : u_lay RX6 TX6 35 ∈ WW := wwOf (tb3 (List.mem_of_getElem? (i := 154) rfl)) rfl
theorem lyX6_36 : u_lay RX6 TX6 36 ∈ WW := wwOf (tb3 (List.mem_of_getElem? (i := 156) rfl)) rfl
theorem lyX6_37 : u_lay RX6 TX6 37 ∈ WW := wwOf (tb3 (List.mem_of_getElem? (i := 158) rfl)) rfl
theorem lyX6_38 : u_lay RX6 TX6 38 ∈ WW := wwOf (tb3 (List.mem_of_getElem? (i := 160) rfl)) rfl
theorem lyX6_39 : u_lay RX6 TX6 39 ∈ WW := wwOf (tb3 (List.mem_of_getElem? (i := 162) rfl)) rfl
theorem lyX6_40 : u_lay RX6 TX6 40 ∈ WW := wwOf (tb3 (List.mem_of_getElem? (i := 164) rfl)) rfl
theorem lyX6_41 : u_lay RX6 TX6 41 ∈ WW := wwOf (tb3 (List.mem_of_getElem? (i := 166) rfl)) rfl
theorem lyX6_42 : u_lay RX6 TX6 42 ∈ WW := wwOf (tb3 (List.mem_of_getElem? (i := 168) rfl)) rfl
theorem inWX6 : ∀ w ∈ u_ws RX6 TX6 43, w ∈ WW := by
  intro w h
  obtain ⟨k, hk, rfl⟩ := List.mem_map.mp h
  have hk := List.mem_range.mp hk
  match k, hk with
  | 0, _ => exact lyX6_0
  | 1, _ => exact lyX6_1
  | 2, _ => exact lyX6_2
  | 3, _ => exact lyX6_3
  | 4, _ => exact lyX6_4
  | 5, _ => exact lyX6_5
  | 6, _ => exact lyX6_6
  | 7, _ => exact lyX6_7
  | 8, _ => exact lyX6_8
  | 9, _ => exact lyX6_9
  | 10, _ => exact lyX6_10
  | 11, _ => exact lyX6_11
  | 12, _ => exact lyX6_12
  | 13, _ => exact lyX6_13
  | 14, _ => exact lyX6_14
  | 15, _ => exact lyX6_15
  | 16, _ => exact lyX6_16
  | 17, _ => exact lyX6_17
  | 18, _ => exact lyX6_18
  | 19, _ => exact lyX6_19
  | 20, _ => exact lyX6_20
  | 21, _ => exact lyX6_21
  | 22, _ => exact lyX6_22
  | 23, _ => exact lyX6_23
  | 24, _ => exact lyX6_24
  | 25, _ => exact lyX6_25
  | 26, _ => exact lyX6_26
  | 27, _ => exact lyX6_27
  | 28, _ => exact lyX6_28
  | 29, _ => exact lyX6_29
  | 30, _ => exact lyX6_30
  | 31, _ => exact lyX6_31
  | 32, _ => exact lyX6_32
  | 33, _ => exact lyX6_33
  | 34, _ => exact lyX6_34
  | 35, _ => exact lyX6_35
  | 36, _ => exact lyX6_36
  | 37, _ => exact lyX6_37
  | 38, _ => exact lyX6_38
  | 39, _ => exact lyX6_39
  | 40, _ => exact lyX6_40
  | 41, _ => exact lyX6_41
  | 42, _ => exact lyX6_42
  | k + 43, h => exact absurd h (by omega)
