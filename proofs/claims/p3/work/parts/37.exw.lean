abbrev exN : String := "java/util/NoSuchElementException"
abbrev exY : String := "java/lang/RuntimeException"
abbrev exE : String := "java/lang/Exception"
abbrev exT : String := "no such turn, or nothing such is kept of it"
abbrev exC : ByteArray := prog_15_method_4_code
abbrev exW : List Cond := kt_atS RX5 193 exN exY [exE] 13 exC
theorem ex_ot : ∀ w ∈ Cond.classLink RX5 189 exN :: Cond.initialized exN :: exW, vx_ot w = true := by decide +kernel
theorem bx0 : decode exC 0 = .ok (.aload_n 0, 1) := by decide +kernel
theorem bx1 : decode exC 1 = .ok (.aload_n 1, 1) := by decide +kernel
theorem bx2 : decode exC 2 = .ok (.invokespecial 13, 3) := by decide +kernel
theorem bx5 : decode exC 5 = .ok (.return_, 1) := by decide +kernel
/-- words of the exception that a warmed machine keeps, though they aren't among the good ones -/
def exU (U : State) : Prop := va_Nw (.castable exN exN) U ∧ va_Nw (.declares (Bundle.initS exY)) U ∧ va_Nw (.declares (Bundle.initS exE)) U ∧ va_Nw (.declares (Bundle.initS Bundle.tN)) U
theorem exU.same {u U : State} (h : u.vm = U.vm) (z : exU u) : exU U := ⟨va_Nw.same rfl h z.1, va_Nw.same rfl h z.2.1, va_Nw.same rfl h z.2.2.1, va_Nw.same rfl h z.2.2.2⟩
theorem exU.warm {s U : State} (hW : s.WarmedH U.vm) (z : exU s) : exU U := ⟨va_Nw.warmC hW z.1, va_Nw.warmD hW z.2.1, va_Nw.warmD hW z.2.2.1, va_Nw.warmD hW z.2.2.2⟩
theorem ex_hat {args : Array Value} {s : State} (hts : ∀ w ∈ WW, w.before args s = true) (hz : exU s) : ∀ w ∈ exW, w.before args s = true := by
  have k1 : ∀ w ∈ Bundle.throwableAtoms, vx_no w = true → w.before args s = true := (List.forall_mem_cons.mpr ⟨fun _ => hts _ kw_t1_10, List.forall_mem_cons.mpr ⟨fun _ => hts _ kw_t2_231, List.forall_mem_cons.mpr ⟨fun _ => hts _ kw_t3_0, List.forall_mem_cons.mpr ⟨fun _ => hts _ kw_t3_2, List.forall_mem_cons.mpr ⟨fun _ => hts _ kw_t3_5, List.forall_mem_cons.mpr ⟨fun _ => hts _ kw_t3_7, List.forall_mem_cons.mpr ⟨fun _ => hts _ kw_t2_232, List.forall_mem_cons.mpr ⟨fun _ => hts _ kw_t2_233, List.forall_mem_cons.mpr ⟨fun _ => hts _ kw_t1_20, List.forall_mem_cons.mpr ⟨fun _ => hts _ kw_t1_21, List.forall_mem_cons.mpr ⟨fun _ => hts _ kw_t2_234, List.forall_mem_cons.mpr ⟨fun _ => hts _ kw_t2_239, List.forall_mem_cons.mpr ⟨fun _ => hts _ kw_t3_3, List.forall_mem_cons.mpr ⟨fun _ => hts _ kw_t3_23, List.forall_mem_cons.mpr ⟨fun _ => hts _ kw_t2_221, List.forall_mem_cons.mpr ⟨fun _ => hts _ kw_t3_24, List.forall_mem_cons.mpr ⟨fun _ => hts _ kw_t2_223, List.forall_mem_cons.mpr ⟨fun _ => hts _ kw_t3_25, List.forall_mem_cons.mpr ⟨fun _ => hts _ kw_t2_225, List.forall_mem_cons.mpr ⟨fun _ => hts _ kw_t2_235, List.forall_mem_cons.mpr ⟨fun h => absurd h (by decide), List.forall_mem_cons.mpr ⟨fun _ => hts _ kw_t2_237, List.forall_mem_cons.mpr ⟨fun h => absurd h (by decide), List.forall_mem_cons.mpr ⟨fun _ => hts _ kw_t2_227, fun _ h => absurd h List.not_mem_nil⟩⟩⟩⟩⟩⟩⟩⟩⟩⟩⟩⟩⟩⟩⟩⟩⟩⟩⟩⟩⟩⟩⟩⟩)
  have k2 : ∀ w ∈ Bundle.throwableSAtoms, vx_no w = true → w.before args s = true := (List.forall_mem_cons.mpr ⟨fun _ => hts _ kw_t3_19, List.forall_mem_cons.mpr ⟨fun _ => hts _ kw_t3_20, List.forall_mem_cons.mpr ⟨fun _ => hts _ kw_t3_22, List.forall_mem_cons.mpr ⟨fun _ => hts _ kw_t2_227, fun _ h => absurd h List.not_mem_nil⟩⟩⟩⟩)
  have k3 : ∀ w ∈ Bundle.passSAtoms exN exY 13 exC, vx_no w = true → w.before args s = true := (List.forall_mem_cons.mpr ⟨fun _ => hts _ kw_t3_10, List.forall_mem_cons.mpr ⟨fun _ => hts _ kw_t3_11, List.forall_mem_cons.mpr ⟨fun _ => hts _ kw_t3_12, List.forall_mem_cons.mpr ⟨fun _ => hts _ kw_t3_13, List.forall_mem_cons.mpr ⟨fun _ => va_Nw.use rfl hz.2.1, fun _ h => absurd h List.not_mem_nil⟩⟩⟩⟩⟩)
  have k4 : ∀ w ∈ Bundle.passSAtoms exY exE 7 Bundle.six, vx_no w = true → w.before args s = true := (List.forall_mem_cons.mpr ⟨fun _ => hts _ kw_t3_13, List.forall_mem_cons.mpr ⟨fun _ => hts _ kw_t3_14, List.forall_mem_cons.mpr ⟨fun _ => hts _ kw_t3_15, List.forall_mem_cons.mpr ⟨fun _ => hts _ kw_t3_16, List.forall_mem_cons.mpr ⟨fun _ => va_Nw.use rfl hz.2.2.1, fun _ h => absurd h List.not_mem_nil⟩⟩⟩⟩⟩)
  have k5 : ∀ w ∈ Bundle.passSAtoms exE Bundle.tN 7 Bundle.six, vx_no w = true → w.before args s = true := (List.forall_mem_cons.mpr ⟨fun _ => hts _ kw_t3_16, List.forall_mem_cons.mpr ⟨fun _ => hts _ kw_t3_17, List.forall_mem_cons.mpr ⟨fun _ => hts _ kw_t3_18, List.forall_mem_cons.mpr ⟨fun _ => hts _ kw_t3_19, List.forall_mem_cons.mpr ⟨fun _ => va_Nw.use rfl hz.2.2.2, fun _ h => absurd h List.not_mem_nil⟩⟩⟩⟩⟩)
  have k6 : ∀ w ∈ Bundle.chainSAtoms exY [exE], vx_no w = true → w.before args s = true := fun w h => (List.mem_append.mp (show w ∈ Bundle.passSAtoms exY exE 7 Bundle.six ++ Bundle.passSAtoms exE Bundle.tN 7 Bundle.six from h)).elim (k4 w) (k5 w)
  intro w hw
  obtain ⟨h1, h2⟩ := List.mem_filter.mp hw
  have k7 : ∀ w ∈ ([.methodLink RX5 193 (Bundle.initS exN), .instantiable exN 6, .castable exN exN, .selects exN Bundle.tFill0 Bundle.tFill0, .selects exN Bundle.tFill Bundle.tFill,
   .lays exN Bundle.tN "cause" "Ljava/lang/Throwable;", .lays exN Bundle.tN "stackTrace" Bundle.steD, .lays exN Bundle.tN "suppressedExceptions" Bundle.listD, .lays exN Bundle.tN "detailMessage" "Ljava/lang/String;",
   .isRef (.static Bundle.tN "UNASSIGNED_STACK" Bundle.steD), .isRef (.static Bundle.tN "SUPPRESSED_SENTINEL" Bundle.listD),
   .fieldLink Bundle.tN 198 Bundle.tN "backtrace" "Ljava/lang/Object;", .lays Bundle.tN Bundle.tN "backtrace" "Ljava/lang/Object;", .lays exN Bundle.tN "backtrace" "Ljava/lang/Object;"] : List Cond), vx_no w = true → w.before args s = true := (List.forall_mem_cons.mpr ⟨fun _ => hts _ kw_t3_9, List.forall_mem_cons.mpr ⟨fun _ => hts _ kw_t2_210, List.forall_mem_cons.mpr ⟨fun _ => va_Nw.use rfl hz.1, List.forall_mem_cons.mpr ⟨fun _ => hts _ kw_t2_218, List.forall_mem_cons.mpr ⟨fun _ => hts _ kw_t2_219, List.forall_mem_cons.mpr ⟨fun _ => hts _ kw_t2_220, List.forall_mem_cons.mpr ⟨fun _ => hts _ kw_t2_222, List.forall_mem_cons.mpr ⟨fun _ => hts _ kw_t2_224, List.forall_mem_cons.mpr ⟨fun _ => hts _ kw_t2_226, List.forall_mem_cons.mpr ⟨fun h => absurd h (by decide), List.forall_mem_cons.mpr ⟨fun h => absurd h (by decide), List.forall_mem_cons.mpr ⟨fun _ => hts _ kw_t2_230, List.forall_mem_cons.mpr ⟨fun _ => hts _ kw_t2_229, List.forall_mem_cons.mpr ⟨fun _ => hts _ kw_t2_228, fun _ h => absurd h List.not_mem_nil⟩⟩⟩⟩⟩⟩⟩⟩⟩⟩⟩⟩⟩⟩)
  rcases List.mem_append.mp h1 with h1 | h1
  · rcases List.mem_append.mp h1 with h1 | h1
    · rcases List.mem_append.mp h1 with h1 | h1
      · rcases List.mem_append.mp h1 with h1 | h1
        · exact k1 w h1 h2
        · exact k2 w h1 h2
      · exact k3 w h1 h2
    · exact k6 w h1 h2
  · exact k7 w h1 h2
