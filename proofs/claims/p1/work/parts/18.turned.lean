abbrev exN : String := "java/util/NoSuchElementException"
abbrev exY : String := "java/lang/RuntimeException"
abbrev exE : String := "java/lang/Exception"
abbrev exT : String := "no such turn, or nothing such is kept of it"
abbrev exC : ByteArray := prog_15_method_4_code
abbrev exW : List Cond := kt_atS RX5 193 exN exY [exE] 13 exC
theorem ex_ot : ∀ w ∈ Cond.classLink RX5 189 exN :: Cond.initialized exN :: exW, vx_ot w = true := by decide +kernel
theorem bx0 : decode exC 0 = .ok (.aload_n 0, 1) := by decide +kernel
theorem bx1 : decode exC 1 = .ok (.aload_n 1, 1) := by decide +kernel
theorem bx2 : decode exC 2 = .ok (.invokespecial 13, 3) := by decide +kernel
theorem bx5 : decode exC 5 = .ok (.return_, 1) := by decide +kernel
/-- words of the exception that a warmed machine keeps, though they aren't among the good ones -/
def exU (U : State) : Prop := va_Nw (.castable exN exN) U ∧ va_Nw (.declares (Bundle.initS exY)) U ∧ va_Nw (.declares (Bundle.initS exE)) U ∧ va_Nw (.declares (Bundle.initS Bundle.tN)) U
theorem exU.same {u U : State} (h : u.vm = U.vm) (z : exU u) : exU U := ⟨va_Nw.same rfl h z.1, va_Nw.same rfl h z.2.1, va_Nw.same rfl h z.2.2.1, va_Nw.same rfl h z.2.2.2⟩
theorem exU.warm {s U : State} (hW : s.WarmedH U.vm) (z : exU s) : exU U := ⟨va_Nw.warmC hW z.1, va_Nw.warmD hW z.2.1, va_Nw.warmD hW z.2.2.1, va_Nw.warmD hW z.2.2.2⟩
theorem ex_hat {args : Array Value} {s : State} (hts : ∀ w ∈ WW, w.before args s = true) (hz : exU s) : ∀ w ∈ exW, w.before args s = true := by
  have k1 : ∀ w ∈ Bundle.throwableAtoms, vx_no w = true → w.before args s = true := (List.forall_mem_cons.mpr ⟨fun _ => hts _ kw_175, List.forall_mem_cons.mpr ⟨fun _ => hts _ kw_176, List.forall_mem_cons.mpr ⟨fun _ => hts _ kw_177, List.forall_mem_cons.mpr ⟨fun _ => hts _ kw_178, List.forall_mem_cons.mpr ⟨fun _ => hts _ kw_179, List.forall_mem_cons.mpr ⟨fun _ => hts _ kw_180, List.forall_mem_cons.mpr ⟨fun _ => hts _ kw_181, List.forall_mem_cons.mpr ⟨fun _ => hts _ kw_182, List.forall_mem_cons.mpr ⟨fun _ => hts _ kw_99, List.forall_mem_cons.mpr ⟨fun _ => hts _ kw_100, List.forall_mem_cons.mpr ⟨fun _ => hts _ kw_183, List.forall_mem_cons.mpr ⟨fun _ => hts _ kw_184, List.forall_mem_cons.mpr ⟨fun _ => hts _ kw_185, List.forall_mem_cons.mpr ⟨fun _ => hts _ kw_186, List.forall_mem_cons.mpr ⟨fun _ => hts _ kw_187, List.forall_mem_cons.mpr ⟨fun _ => hts _ kw_188, List.forall_mem_cons.mpr ⟨fun _ => hts _ kw_189, List.forall_mem_cons.mpr ⟨fun _ => hts _ kw_190, List.forall_mem_cons.mpr ⟨fun _ => hts _ kw_191, List.forall_mem_cons.mpr ⟨fun _ => hts _ kw_192, List.forall_mem_cons.mpr ⟨fun h => absurd h (by decide), List.forall_mem_cons.mpr ⟨fun _ => hts _ kw_193, List.forall_mem_cons.mpr ⟨fun h => absurd h (by decide), List.forall_mem_cons.mpr ⟨fun _ => hts _ kw_194, fun _ h => absurd h List.not_mem_nil⟩⟩⟩⟩⟩⟩⟩⟩⟩⟩⟩⟩⟩⟩⟩⟩⟩⟩⟩⟩⟩⟩⟩⟩)
  have k2 : ∀ w ∈ Bundle.throwableSAtoms, vx_no w = true → w.before args s = true := (List.forall_mem_cons.mpr ⟨fun _ => hts _ kw_195, List.forall_mem_cons.mpr ⟨fun _ => hts _ kw_196, List.forall_mem_cons.mpr ⟨fun _ => hts _ kw_197, List.forall_mem_cons.mpr ⟨fun _ => hts _ kw_194, fun _ h => absurd h List.not_mem_nil⟩⟩⟩⟩)
  have k3 : ∀ w ∈ Bundle.passSAtoms exN exY 13 exC, vx_no w = true → w.before args s = true := (List.forall_mem_cons.mpr ⟨fun _ => hts _ kw_209, List.forall_mem_cons.mpr ⟨fun _ => hts _ kw_210, List.forall_mem_cons.mpr ⟨fun _ => hts _ kw_211, List.forall_mem_cons.mpr ⟨fun _ => hts _ kw_212, List.forall_mem_cons.mpr ⟨fun _ => va_Nw.use rfl hz.2.1, fun _ h => absurd h List.not_mem_nil⟩⟩⟩⟩⟩)
  have k4 : ∀ w ∈ Bundle.passSAtoms exY exE 7 Bundle.six, vx_no w = true → w.before args s = true := (List.forall_mem_cons.mpr ⟨fun _ => hts _ kw_212, List.forall_mem_cons.mpr ⟨fun _ => hts _ kw_213, List.forall_mem_cons.mpr ⟨fun _ => hts _ kw_214, List.forall_mem_cons.mpr ⟨fun _ => hts _ kw_215, List.forall_mem_cons.mpr ⟨fun _ => va_Nw.use rfl hz.2.2.1, fun _ h => absurd h List.not_mem_nil⟩⟩⟩⟩⟩)
  have k5 : ∀ w ∈ Bundle.passSAtoms exE Bundle.tN 7 Bundle.six, vx_no w = true → w.before args s = true := (List.forall_mem_cons.mpr ⟨fun _ => hts _ kw_215, List.forall_mem_cons.mpr ⟨fun _ => hts _ kw_216, List.forall_mem_cons.mpr ⟨fun _ => hts _ kw_217, List.forall_mem_cons.mpr ⟨fun _ => hts _ kw_195, List.forall_mem_cons.mpr ⟨fun _ => va_Nw.use rfl hz.2.2.2, fun _ h => absurd h List.not_mem_nil⟩⟩⟩⟩⟩)
  have k6 : ∀ w ∈ Bundle.chainSAtoms exY [exE], vx_no w = true → w.before args s = true := fun w h => (List.mem_append.mp (show w ∈ Bundle.passSAtoms exY exE 7 Bundle.six ++ Bundle.passSAtoms exE Bundle.tN 7 Bundle.six from h)).elim (k4 w) (k5 w)
  intro w hw
  obtain ⟨h1, h2⟩ := List.mem_filter.mp hw
  have k7 : ∀ w ∈ ([.methodLink RX5 193 (Bundle.initS exN), .instantiable exN 6, .castable exN exN, .selects exN Bundle.tFill0 Bundle.tFill0, .selects exN Bundle.tFill Bundle.tFill,
   .lays exN Bundle.tN "cause" "Ljava/lang/Throwable;", .lays exN Bundle.tN "stackTrace" Bundle.steD, .lays exN Bundle.tN "suppressedExceptions" Bundle.listD, .lays exN Bundle.tN "detailMessage" "Ljava/lang/String;",
   .isRef (.static Bundle.tN "UNASSIGNED_STACK" Bundle.steD), .isRef (.static Bundle.tN "SUPPRESSED_SENTINEL" Bundle.listD),
   .fieldLink Bundle.tN 198 Bundle.tN "backtrace" "Ljava/lang/Object;", .lays Bundle.tN Bundle.tN "backtrace" "Ljava/lang/Object;", .lays exN Bundle.tN "backtrace" "Ljava/lang/Object;"] : List Cond), vx_no w = true → w.before args s = true := (List.forall_mem_cons.mpr ⟨fun _ => hts _ kw_198, List.forall_mem_cons.mpr ⟨fun _ => hts _ kw_199, List.forall_mem_cons.mpr ⟨fun _ => va_Nw.use rfl hz.1, List.forall_mem_cons.mpr ⟨fun _ => hts _ kw_200, List.forall_mem_cons.mpr ⟨fun _ => hts _ kw_201, List.forall_mem_cons.mpr ⟨fun _ => hts _ kw_202, List.forall_mem_cons.mpr ⟨fun _ => hts _ kw_203, List.forall_mem_cons.mpr ⟨fun _ => hts _ kw_204, List.forall_mem_cons.mpr ⟨fun _ => hts _ kw_205, List.forall_mem_cons.mpr ⟨fun h => absurd h (by decide), List.forall_mem_cons.mpr ⟨fun h => absurd h (by decide), List.forall_mem_cons.mpr ⟨fun _ => hts _ kw_206, List.forall_mem_cons.mpr ⟨fun _ => hts _ kw_207, List.forall_mem_cons.mpr ⟨fun _ => hts _ kw_208, fun _ h => absurd h List.not_mem_nil⟩⟩⟩⟩⟩⟩⟩⟩⟩⟩⟩⟩⟩⟩)
  rcases List.mem_append.mp h1 with h1 | h1
  · rcases List.mem_append.mp h1 with h1 | h1
    · rcases List.mem_append.mp h1 with h1 | h1
      · rcases List.mem_append.mp h1 with h1 | h1
        · exact k1 w h1 h2
        · exact k2 w h1 h2
      · exact k3 w h1 h2
    · exact k6 w h1 h2
  · exact k7 w h1 h2
set_option maxHeartbeats 4000000 in
set_option maxRecDepth 100000 in
theorem c_X5_turned (l : Launch) (hT : l.stackTraces = false) (dC : Nat → ClassId) (dI : Nat → Nat → Nat) (cI cZ cS cC : ClassId) (h0 sz : Nat) (qa : Nat → Nat) (ro sa : Nat) (p0 p1 : Int32) : vx_Met l yX5_turned (Cond.code yX5_turned cX5_turned 3 (some .int) :: WW) ({ frames := 6, cells := 1, slots := 6, locals := 90 }) (va_Pc [.ref h0, .int p0, .int p1] (fun U => U.heap.size = sz ∧ va_P (dC, dI) vwCl [(h0, .inr (5, [.ref (qa 0), .ref (qa 1), .ref (qa 2), .ref (qa 3), .ref (qa 4), .int 0, .int 0, .int 10, .int 100, .int 0, .int 0])), (qa 4, .inr (1, [.ref ro, .int 0]))] U.heap ∧ va_K (dC, dI) vwCl [(cI, .int), (cZ, .boolean), (cS, .object RX3), (cC, .object RX0)] U ∧ va_D (fun _ => True) [(h0, .inr (5, [.ref (qa 0), .ref (qa 1), .ref (qa 2), .ref (qa 3), .ref (qa 4), .int 0, .int 0, .int 10, .int 100, .int 0, .int 0])), (qa 4, .inr (1, [.ref ro, .int 0]))] ∧ exU U ∧ vk_R RX5 191 exT sa U ∧ vx_Zq Bundle.tN "UNASSIGNED_STACK" Bundle.steD (va_A [] sz) U U.heap ∧ vx_Zq Bundle.tN "SUPPRESSED_SENTINEL" Bundle.listD (va_A [] sz) U U.heap)) (va_Qi (fun (_ : Int32) (_ : Unit) => False) (fun (_ : Unit) (_ : State) => True) (va_A [] sz)) (vx_X (fun (_ : Unit) => True) (fun (E : String) (_ : Unit) (_ : State) => E = exN) (va_A [] sz)) 1 6 (va_A [] sz) := by
  refine vx_ofW (cc := cX5_turned) (maxL := 3) (ret := (some .int)) (by decide) rfl ?_
  intro p e s m args below meth c s₁ B hml htab hv
  obtain ⟨rfl, hsz, hP, hK, hD0, hU0, hRs, hZ1, hZ2⟩ := hv
  have hx := B.exec
  have hb := B.bytes
  have hr := B.returns
  have hts := atoms_spec (ws := Cond.code yX5_turned cX5_turned 3 (some .int) :: WW) B.pre
  have hown : s.vm.findClass RX5 = some m.cls := findClass_of_methodNamed B.named
  have hlocks := B.notSynchronized
  subst hsz
  have hD := hD0
  generalize hAe : va_A [] s.heap.size = A at hZ1 hZ2 ⊢
  have hA : ∀ q : Nat, s.heap.size ≤ q → A q := fun q h => by rw [← hAe]; exact Or.inr h
  have hS : va_S A s.heap s.heap [] := va_S.rf
  have hP : va_P (dC, dI) vwCl [(h0, .inr (5, [.ref (qa 0), .ref (qa 1), .ref (qa 2), .ref (qa 3), .ref (qa 4), .int 0, .int 0, .int 10, .int 100, .int 0, .int 0])), (qa 4, .inr (1, [.ref ro, .int 0]))] s.heap := hP
  have hl := lv_entry ([.ref h0, .int p0, .int p1]) (n := 3) (Nat.le_of_ble_eq_true rfl)
  rw [lg_entry_eq]
  generalize (lg_sl ([.ref h0, .int p0, .int p1]) ++ List.replicate (3 - (lg_sl ([.ref h0, .int p0, .int p1])).length) Slot.unset).toArray = ls at hl ⊢
  have hl : lv_has ls 3 [(0, .ref h0), (1, .int p0), (2, .int p1)] := hl
  refine lv_aload_n hx hb dX5_turned_0 rfl (lv_at hl 0 rfl) ?_
  refine va_get (D := (dC, dI)) (ci := 5) (v := .ref (qa 4)) (C := RX5) (T := TX5) (N := 11) hx hb hts (fun w h => List.mem_cons_of_mem _ (inWX5 w h)) hown hK hP 0 rfl rfl 4 (by decide) (hts _ (List.mem_cons_of_mem _ kw_11)) (fun _ h9 => h9) rfl dX5_turned_1 ?_
  refine lv_iload_n hx hb dX5_turned_4 rfl (lv_at hl 1 rfl) ?_
  have hPc := hP.sub (ws' := [(qa 4, .inr (1, [.ref ro, .int 0]))]) [1] rfl
  have hDc := hD.sub (ws' := [(qa 4, .inr (1, [.ref ro, .int 0]))]) [1] (by decide) rfl
  have hFc : ∀ q, va_A ([] : va_W) s.heap.size q → A q := va_free (wc := []) (ws := []) kt_D0 hS hA [] rfl
  refine va_calli (va_runV (As := [.int p0]) (rest := []) ⟨hx, hb, hml, hown, hts⟩ (c_X1_isKept l dC dI cI cZ cS cC (qa 4) s.heap.size qa ro p0) (cwV 1 hts (gV (fun w h => List.mem_cons_of_mem _ h) kw_219 kw_220 kw_221 kw_142 kw_218) rfl rfl rfl (by decide +kernel) ⟨Nat.le_of_ble_eq_true rfl, Nat.le_of_ble_eq_true rfl⟩) ⟨fun a U g mk q => by obtain ⟨q0, q1, qP, qK, qD⟩ := q; exact ⟨q0, q1, qP, va_K.moved (u := U) (U := U.calling g mk a) (Vm.Alike.refl U.vm) qK, qD⟩, va_recv hK hP (ci := 1) (q0 := 1) rfl rfl, fun U hU hW => ⟨rfl, by rw [hU], by rw [hU]; exact hPc, va_K.moved hW.alike hK, hDc.weaken (fun _ _ _ _ => trivial)⟩⟩ rfl rfl hl.1 rfl (lv_room (Nat.le_of_ble_eq_true rfl)) dX5_turned_5 ⟨Nat.le_of_ble_eq_true rfl, Nat.le_of_ble_eq_true rfl⟩) hS (fun q _ h => hFc q h) hFc (fun r_1 u_1 t H1 locs ht hvm hw_1 hB hz1 hk1 hS => ?_)
  obtain ⟨hP, hD⟩ := va_join (A0 := fun _ => True) (wc := []) (wr := [(h0, .inr (5, [.ref (qa 0), .ref (qa 1), .ref (qa 2), .ref (qa 3), .ref (qa 4), .int 0, .int 0, .int 10, .int 100, .int 0, .int 0])), (qa 4, .inr (1, [.ref ro, .int 0]))]) (w1 := []) hP hD [] [0, 1] rfl rfl (by decide) (by decide) hk1 (fun _ _ => trivial) kt_P0 kt_D0
  generalize H1 = H at hP hS ⊢
  have hP : va_P (dC, dI) vwCl [(h0, .inr (5, [.ref (qa 0), .ref (qa 1), .ref (qa 2), .ref (qa 3), .ref (qa 4), .int 0, .int 0, .int 10, .int 100, .int 0, .int 0])), (qa 4, .inr (1, [.ref ro, .int 0]))] H := hP
  have hD : va_D (fun _ => True) [(h0, .inr (5, [.ref (qa 0), .ref (qa 1), .ref (qa 2), .ref (qa 3), .ref (qa 4), .int 0, .int 0, .int 10, .int 100, .int 0, .int 0])), (qa 4, .inr (1, [.ref ro, .int 0]))] := hD
  subst hw_1
  refine lv_if_eq (tgt := 20) hx hb dX5_turned_8 (by decide) (fun c_2 => ?_) (fun c_2 => absurd (by decide) c_2)
  exact kt_throwS hx hb hT bx0 bx1 bx2 bx5 (own := RX5) (cls := exN) (text := exT) (YN := exY) (names := [exE]) (ik := 189) (is := 191) (ic := 193) (sa := sa) (A := A) hown (by decide +kernel) (by decide +kernel) (by decide +kernel) (hts _ (List.mem_cons_of_mem _ kw_222)) (hts _ (List.mem_cons_of_mem _ kw_223)) hRs (ex_hat (fun w h => hts w (List.mem_cons_of_mem _ h)) hU0) ex_ot hZ1 hZ2 hS (hl.1.trans hml.symm) dX5_turned_20 dX5_turned_23 dX5_turned_24 dX5_turned_26 dX5_turned_29 (fun x hx => (htab x hx).elim) (by decide) (by decide) (by decide) (by decide) hlocks (fun t hvm hz hk => ⟨(), trivial, rfl, Nat.le_trans hS.1 hz, fun q h1 h2 => (hk q (Nat.lt_of_lt_of_le h1 hS.1)).trans (hS.2.1 q h1 h2)⟩) (fun z hz => hS.2.2 z hz) (Nat.le_refl _) (Nat.le_refl _)
set_option maxHeartbeats 4000000 in
set_option maxRecDepth 100000 in
theorem c_L_turned (l : Launch) (hT : l.stackTraces = false) (dC : Nat → ClassId) (dI : Nat → Nat → Nat) (cI cZ cS cC : ClassId) (h0 sz : Nat) (qa : Nat → Nat) (ro sa o9 : Nat) (p0 p1 : Int32) : Met l yL_turned (Cond.codeWith yL_turned cL_turned 5 (some .int) [(0, 10, 13, 13)] :: WW) ({ frames := 7, cells := 1, slots := 6, locals := 120 }) (va_Pc [.ref h0, .int p0, .int p1, .ref o9] (fun U => U.heap.size = sz ∧ va_P (dC, dI) vwCl [(h0, .inr (5, [.ref (qa 0), .ref (qa 1), .ref (qa 2), .ref (qa 3), .ref (qa 4), .int 0, .int 0, .int 10, .int 100, .int 0, .int 0])), (qa 4, .inr (1, [.ref ro, .int 0]))] U.heap ∧ va_K (dC, dI) vwCl [(cI, .int), (cZ, .boolean), (cS, .object RX3), (cC, .object RX0)] U ∧ va_D (fun _ => True) [(h0, .inr (5, [.ref (qa 0), .ref (qa 1), .ref (qa 2), .ref (qa 3), .ref (qa 4), .int 0, .int 0, .int 10, .int 100, .int 0, .int 0])), (qa 4, .inr (1, [.ref ro, .int 0]))] ∧ exU U ∧ vk_R RX5 191 exT sa U ∧ vx_Zq Bundle.tN "UNASSIGNED_STACK" Bundle.steD (va_A [] sz) U U.heap ∧ vx_Zq Bundle.tN "SUPPRESSED_SENTINEL" Bundle.listD (va_A [] sz) U U.heap)) (va_Qi (fun (r : Int32) (_ : Unit) => r = 1) (fun (_ : Unit) (_ : State) => True) (va_A [] sz)) 1 6 (va_A [] sz) := by
  refine va_MetW (cc := cL_turned) (maxL := 5) (ret := (some .int)) (hh := [(0, 10, 13, 13)]) (by decide) rfl ?_
  intro p e s m args below meth c s₁ B hml hv
  obtain ⟨rfl, hsz, hP, hK, hD0, hU0, hRs, hZ1, hZ2⟩ := hv
  have hx := B.exec
  have hb := B.bytes
  have hr := B.returns
  have hts := atoms_spec (ws := Cond.codeWith yL_turned cL_turned 5 (some .int) [(0, 10, 13, 13)] :: WW) B.pre
  have hown : s.vm.findClass RL = some m.cls := findClass_of_methodNamed B.named
  have hlocks := B.notSynchronized
  have htab := vx_table (x := yL_turned) B (hts _ List.mem_cons_self)
  subst hsz
  have hD := hD0
  generalize hAe : va_A [] s.heap.size = A at hZ1 hZ2 ⊢
  have hA : ∀ q : Nat, s.heap.size ≤ q → A q := fun q h => by rw [← hAe]; exact Or.inr h
  have hS : va_S A s.heap s.heap [] := va_S.rf
  have hl := lv_entry ([.ref h0, .int p0, .int p1, .ref o9]) (n := 5) (Nat.le_of_ble_eq_true rfl)
  rw [lg_entry_eq]
  generalize (lg_sl ([.ref h0, .int p0, .int p1, .ref o9]) ++ List.replicate (5 - (lg_sl ([.ref h0, .int p0, .int p1, .ref o9])).length) Slot.unset).toArray = ls at hl ⊢
  have hl : lv_has ls 5 [(0, .ref h0), (1, .int p0), (2, .int p1), (3, .ref o9)] := hl
  refine lv_aload_n hx hb dL_turned_0 rfl (lv_at hl 3 rfl) ?_
  refine lv_iconst (v := 0) hx hb dL_turned_1 (by decide) ?_
  refine lv_aload_n hx hb dL_turned_2 rfl (lv_at hl 0 rfl) ?_
  refine lv_iload_n hx hb dL_turned_3 rfl (lv_at hl 1 rfl) ?_
  refine lv_iload_n hx hb dL_turned_4 rfl (lv_at hl 2 rfl) ?_
  have hPc := hP
  have hDc := hD
  have hFc : ∀ q, va_A ([] : va_W) s.heap.size q → A q := va_free (wc := []) (ws := []) kt_D0 hS hA [] rfl
  refine vx_calli (vx_runV (As := [.int p0, .int p1]) (rest := [.int 0, .ref o9]) ⟨hx, hb, hml, hown, hts⟩ (c_X5_turned l hT dC dI cI cZ cS cC h0 s.heap.size qa ro sa p0 p1) (cwV 2 hts (gV (fun w h => List.mem_cons_of_mem _ h) kw_225 kw_226 kw_227 kw_9 kw_228) rfl rfl rfl (by decide +kernel) ⟨Nat.le_of_ble_eq_true rfl, Nat.le_of_ble_eq_true rfl⟩) ⟨fun a U g mk q => by obtain ⟨q0, q1, qP, qK, qD, qE0, qE1, qE2, qE3⟩ := q; exact ⟨q0, q1, qP, va_K.moved (u := U) (U := U.calling g mk a) (Vm.Alike.refl U.vm) qK, qD, exU.same rfl qE0, vk_R.same rfl qE1, vx_Zq.moved (u := U) (U := U.calling g mk a) (Vm.Alike.refl U.vm) qE2, vx_Zq.moved (u := U) (U := U.calling g mk a) (Vm.Alike.refl U.vm) qE3⟩, va_recv hK hP (ci := 5) (q0 := 0) rfl rfl, fun U hU hW => ⟨rfl, by rw [hU], by rw [hU]; exact hPc, va_K.moved hW.alike hK, hDc.weaken (fun _ _ _ _ => trivial), exU.warm hW hU0, vk_R.warm hW hRs, by rw [hU]; exact vx_Zq.moved hW.alike ((hZ1.kept hS.2.1).narrow hFc), by rw [hU]; exact vx_Zq.moved hW.alike ((hZ2.kept hS.2.1).narrow hFc)⟩⟩ rfl rfl hl.1 rfl (lv_room (Nat.le_of_ble_eq_true rfl)) dL_turned_5 ⟨Nat.le_of_ble_eq_true rfl, Nat.le_of_ble_eq_true rfl⟩) hS (fun q _ h => hFc q h) hFc (fun q _ h => hFc q h) (fun E ce q9 u t H1 locs ht hvm _ hE9 hz1 hk1 hS hce hcv hcl => ?_) (fun r u t H1 locs ht hvm hw => hw.elim)
  subst hE9
  refine vx_catch hown ⟨0, 10, 13, 13⟩ [] (htab.trans rfl) (by decide) (by decide) (hts _ (List.mem_cons_of_mem _ kw_229)) (va_Nw.use rfl hU0.1) hce hcv hcl ?_
  refine lv_astore (lv' := [(4, .ref q9), (0, .ref h0), (1, .int p0), (2, .int p1), (3, .ref o9)]) hx hb dL_turned_13 hl (by decide) rfl (fun ls hl => ?_)
  refine lv_iconst (v := 1) hx hb dL_turned_15 (by decide) ?_
  exact W.iret (v := 1) hx hb hr (fun t ht hW => ⟨⟨1, (), rfl, rfl, trivial⟩, hS.F ht⟩) hS.2.2 dL_turned_16
