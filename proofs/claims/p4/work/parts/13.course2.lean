set_option maxHeartbeats 4000000 in
set_option maxRecDepth 100000 in
theorem c_X0_endOfWait (l : Launch) (dC : Nat → ClassId) (dI : Nat → Nat → Nat) (cI cZ cS cC : ClassId) (h0 sz : Nat) (qa : Nat → Nat) (a0 : Nat) (a1 : Nat) (x0 : Int32) (x1 : Int32) (x2 : Int32) (x3 : Int32) (x4 : Int32) (x5 : Int32) (x6 : Int32) (p0 p1 : Int32) : Met l yX0_endOfWait (Cond.code yX0_endOfWait cX0_endOfWait 3 (some .int) :: WW) ({ frames := 1, cells := 0, slots := 0, locals := 30 }) (va_Pc [.ref h0, .int p0, .int p1] (fun U => U.heap.size = sz ∧ va_P (dC, dI) vwCl [(h0, .inr (0, [.ref a0, .ref a1, .int x0, .int x1, .int x2, .int x3, .int x4, .int x5, .int x6]))] U.heap ∧ va_K (dC, dI) vwCl [(cI, .int), (cZ, .boolean), (cS, .object RX3), (cC, .object RX0)] U ∧ va_D (fun _ => True) [(h0, .inr (0, [.ref a0, .ref a1, .int x0, .int x1, .int x2, .int x3, .int x4, .int x5, .int x6]))])) (va_Qi (fun (_ : Int32) (_ : Unit) => True) (fun (_ : Unit) (_ : State) => True) (va_A [] sz)) 0 0 (va_A [] sz) := by
  refine Met.ofW (cc := cX0_endOfWait) (maxL := 3) (ret := (some .int)) (by decide) rfl ?_
  intro p e s m args below meth c s₁ B hml hv
  obtain ⟨rfl, hsz, hP, hK, hD0⟩ := hv
  have hx := B.exec
  have hb := B.bytes
  have hr := B.returns
  have hts := atoms_spec (ws := Cond.code yX0_endOfWait cX0_endOfWait 3 (some .int) :: WW) B.pre
  have hown : s.vm.findClass RX0 = some m.cls := findClass_of_methodNamed B.named
  have hlocks := B.notSynchronized
  subst hsz
  have hD := hD0
  generalize hAe : va_A [] s.heap.size = A
  have hA : ∀ q : Nat, s.heap.size ≤ q → A q := fun q h => by rw [← hAe]; exact Or.inr h
  have hS : va_S A s.heap s.heap [] := va_S.rf
  have hP : va_P (dC, dI) vwCl [(h0, .inr (0, [.ref a0, .ref a1, .int x0, .int x1, .int x2, .int x3, .int x4, .int x5, .int x6]))] s.heap := hP
  have hl := lv_entry ([.ref h0, .int p0, .int p1]) (n := 3) (Nat.le_of_ble_eq_true rfl)
  rw [lg_entry_eq]
  generalize (lg_sl ([.ref h0, .int p0, .int p1]) ++ List.replicate (3 - (lg_sl ([.ref h0, .int p0, .int p1])).length) Slot.unset).toArray = ls at hl ⊢
  have hl : lv_has ls 3 [(0, .ref h0), (1, .int p0), (2, .int p1)] := hl
  refine lv_aload_n hx hb dX0_endOfWait_0 rfl (lv_at hl 0 rfl) ?_
  refine va_get (D := (dC, dI)) (ci := 0) (v := .int x5) (C := RX0) (T := TX0) (N := 9) hx hb hts (fun w h => List.mem_cons_of_mem _ (inWX0 w h)) hown hK hP 0 rfl rfl 7 (by decide) (hts _ (List.mem_cons_of_mem _ kw_t1_136)) (fun _ h9 => h9) rfl dX0_endOfWait_1 ?_
  refine lv_iload_n hx hb dX0_endOfWait_4 rfl (lv_at hl 1 rfl) ?_
  refine lv_iadd hx hb dX0_endOfWait_5 ?_
  refine lv_topi (fun t_1 et_1 => ?_)
  refine lv_aload_n hx hb dX0_endOfWait_6 rfl (lv_at hl 0 rfl) ?_
  refine va_get (D := (dC, dI)) (ci := 0) (v := .int x3) (C := RX0) (T := TX0) (N := 9) hx hb hts (fun w h => List.mem_cons_of_mem _ (inWX0 w h)) hown hK hP 0 rfl rfl 5 (by decide) (hts _ (List.mem_cons_of_mem _ kw_t1_132)) (fun _ h9 => h9) rfl dX0_endOfWait_7 ?_
  refine lv_iload_n hx hb dX0_endOfWait_10 rfl (lv_at hl 2 rfl) ?_
  refine lv_iadd hx hb dX0_endOfWait_11 ?_
  refine lv_topi (fun t_2 et_2 => ?_)
  refine va_mmin hx hb (hml.trans hl.1.symm) hown (hts _ (List.mem_cons_of_mem _ kw_t2_68)) (hts _ (List.mem_cons_of_mem _ kw_t2_69)) (hts _ (List.mem_cons_of_mem _ kw_t1_8)) (hts _ (List.mem_cons_of_mem _ kw_t2_70)) (Nat.le_of_ble_eq_true rfl) (Nat.le_of_ble_eq_true rfl) (Nat.zero_le _) (Nat.zero_le _) dX0_endOfWait_12 ?_
  refine lv_topi (fun t_3 et_3 => ?_)
  exact W.iret (v := t_3) hx hb hr (fun t ht hW => ⟨⟨t_3, (), rfl, trivial, trivial⟩, hS.F ht⟩) hS.2.2 dX0_endOfWait_15

set_option maxHeartbeats 4000000 in
set_option maxRecDepth 100000 in
theorem c_X0_act (l : Launch) (dC : Nat → ClassId) (dI : Nat → Nat → Nat) (cI cZ cS cC : ClassId) (h0 sz : Nat) (qa : Nat → Nat) (a0 : Nat) (a1 : Nat) (x0 : Int32) (x1 : Int32) (x2 : Int32) (x3 : Int32) (x4 : Int32) (x5 : Int32) (x6 : Int32) (s0 : Int32) (s1 : Int32) (s2 : Int32) (s3 : Int32) (s4 : Int32) (s5 : Int32) (s6 : Int32) (s7 : Int32) (s8 : Int32) (s9 : Int32) (p0 : Int32) : Met l yX0_act (Cond.code yX0_act cX0_act 3 none :: WW) ({ frames := 1, cells := 0, slots := 0, locals := 30 }) (va_Pc [.ref h0, .int p0] (fun U => U.heap.size = sz ∧ va_P (dC, dI) vwCl [(h0, .inr (0, [.ref a0, .ref a1, .int x0, .int x1, .int x2, .int x3, .int x4, .int x5, .int x6])), (a0, .inr (3, [.int s0, .int s1, .int s2, .int s3, .int s4, .int s5, .int s6, .int s7, .int s8, .int s9]))] U.heap ∧ va_K (dC, dI) vwCl [(cI, .int), (cZ, .boolean), (cS, .object RX3), (cC, .object RX0)] U ∧ va_D (fun _ => True) [(h0, .inr (0, [.ref a0, .ref a1, .int x0, .int x1, .int x2, .int x3, .int x4, .int x5, .int x6])), (a0, .inr (3, [.int s0, .int s1, .int s2, .int s3, .int s4, .int s5, .int s6, .int s7, .int s8, .int s9]))])) (va_Qv (fun (_ : Nat → Int32) => True) (fun (u : Nat → Int32) (t : State) => va_P (dC, dI) vwCl [(h0, .inr (0, [.ref a0, .ref a1, .int (u 0), .int (u 1), .int (u 2), .int (u 3), .int (u 4), .int (u 5), .int (u 6)])), (a0, .inr (3, [.int (u 7), .int (u 8), .int (u 9), .int (u 10), .int (u 11), .int (u 12), .int (u 13), .int (u 14), .int (u 15), .int (u 16)]))] t.heap ∧ va_K (dC, dI) vwCl [(cI, .int), (cZ, .boolean), (cS, .object RX3), (cC, .object RX0)] t ∧ va_D (va_A [(h0, .inr (0, [.ref a0, .ref a1, .int x0, .int x1, .int x2, .int x3, .int x4, .int x5, .int x6])), (a0, .inr (3, [.int s0, .int s1, .int s2, .int s3, .int s4, .int s5, .int s6, .int s7, .int s8, .int s9]))] sz) [(h0, .inr (0, [.ref a0, .ref a1, .int (u 0), .int (u 1), .int (u 2), .int (u 3), .int (u 4), .int (u 5), .int (u 6)])), (a0, .inr (3, [.int (u 7), .int (u 8), .int (u 9), .int (u 10), .int (u 11), .int (u 12), .int (u 13), .int (u 14), .int (u 15), .int (u 16)]))]) (va_A [(h0, .inr (0, [.ref a0, .ref a1, .int x0, .int x1, .int x2, .int x3, .int x4, .int x5, .int x6])), (a0, .inr (3, [.int s0, .int s1, .int s2, .int s3, .int s4, .int s5, .int s6, .int s7, .int s8, .int s9]))] sz)) 0 0 (va_A [(h0, .inr (0, [.ref a0, .ref a1, .int x0, .int x1, .int x2, .int x3, .int x4, .int x5, .int x6])), (a0, .inr (3, [.int s0, .int s1, .int s2, .int s3, .int s4, .int s5, .int s6, .int s7, .int s8, .int s9]))] sz) := by
  refine Met.ofW (cc := cX0_act) (maxL := 3) (ret := none) (by decide) rfl ?_
  intro p e s m args below meth c s₁ B hml hv
  obtain ⟨rfl, hsz, hP, hK, hD0⟩ := hv
  have hx := B.exec
  have hb := B.bytes
  have hr := B.returns
  have hts := atoms_spec (ws := Cond.code yX0_act cX0_act 3 none :: WW) B.pre
  have hown : s.vm.findClass RX0 = some m.cls := findClass_of_methodNamed B.named
  have hlocks := B.notSynchronized
  subst hsz
  have hD := hD0.self (sz := s.heap.size)
  generalize hAe : va_A [(h0, .inr (0, [.ref a0, .ref a1, .int x0, .int x1, .int x2, .int x3, .int x4, .int x5, .int x6])), (a0, .inr (3, [.int s0, .int s1, .int s2, .int s3, .int s4, .int s5, .int s6, .int s7, .int s8, .int s9]))] s.heap.size = A at hD ⊢
  have hA : ∀ q : Nat, s.heap.size ≤ q → A q := fun q h => by rw [← hAe]; exact Or.inr h
  have hS : va_S A s.heap s.heap [] := va_S.rf
  have hP : va_P (dC, dI) vwCl [(h0, .inr (0, [.ref a0, .ref a1, .int x0, .int x1, .int x2, .int x3, .int x4, .int x5, .int x6])), (a0, .inr (3, [.int s0, .int s1, .int s2, .int s3, .int s4, .int s5, .int s6, .int s7, .int s8, .int s9]))] s.heap := hP
  have hl := lv_entry ([.ref h0, .int p0]) (n := 3) (Nat.le_of_ble_eq_true rfl)
  rw [lg_entry_eq]
  generalize (lg_sl ([.ref h0, .int p0]) ++ List.replicate (3 - (lg_sl ([.ref h0, .int p0])).length) Slot.unset).toArray = ls at hl ⊢
  have hl : lv_has ls 3 [(0, .ref h0), (1, .int p0)] := hl
  refine lv_iload_n hx hb dX0_act_0 rfl (lv_at hl 1 rfl) ?_
  refine lv_bipush (v := 10) hx hb dX0_act_1 (by decide) ?_
  refine lv_icmp_ge (tgt := 22) hx hb dX0_act_3 (by decide) (fun c_1 => ?_) (fun c_1 => ?_)
  · refine lv_iconst (v := 1) hx hb dX0_act_22 (by decide) ?_
    refine lv_iload_n hx hb dX0_act_23 rfl (lv_at hl 1 rfl) ?_
    refine lv_bipush (v := 10) hx hb dX0_act_24 (by decide) ?_
    refine lv_isub hx hb dX0_act_26 ?_
    refine lv_topi (fun t_2 et_2 => ?_)
    refine lv_ishl hx hb dX0_act_27 ?_
    refine lv_topi (fun t_3 et_3 => ?_)
    refine lv_istore_n (lv' := [(2, .int t_3), (0, .ref h0), (1, .int p0)]) hx hb dX0_act_28 rfl hl (by decide) rfl (fun ls hl => ?_)
    refine lv_aload_n hx hb dX0_act_29 rfl (lv_at hl 1 rfl) ?_
    refine va_get (D := (dC, dI)) (ci := 0) (v := .ref a0) (C := RX0) (T := TX0) (N := 9) hx hb hts (fun w h => List.mem_cons_of_mem _ (inWX0 w h)) hown hK hP 0 rfl rfl 0 (by decide) (hts _ (List.mem_cons_of_mem _ kw_t1_124)) (fun _ h9 => h9) rfl dX0_act_30 ?_
    refine lv_dup hx hb dX0_act_33 rfl ?_
    refine va_get (D := (dC, dI)) (ci := 3) (v := .int s8) (C := RX3) (T := TX3) (N := 10) hx hb hts (fun w h => List.mem_cons_of_mem _ (inWX3 w h)) hown hK hP 1 rfl rfl 8 (by decide) (hts _ (List.mem_cons_of_mem _ kw_t1_100)) (fun _ h9 => h9) rfl dX0_act_34 ?_
    refine lv_iload_n hx hb dX0_act_37 rfl (lv_at hl 0 rfl) ?_
    refine lv_ior hx hb dX0_act_38 ?_
    refine lv_topi (fun t_4 et_4 => ?_)
    refine va_put (D := (dC, dI)) (ci := 3) (v := .int t_4) (ty := .int) (C := RX3) (T := TX3) (N := 10) hx hb hts (fun w h => List.mem_cons_of_mem _ (inWX3 w h)) tyX3 tyX3_ok nmX3 hown hK hP hD hS 1 rfl rfl 8 (by decide) (hts _ (List.mem_cons_of_mem _ kw_t1_100)) (fun _ h9 => h9) rfl (by decide +kernel) rfl rfl (Nat.le_of_ble_eq_true rfl) dX0_act_39 (fun H locs hP hD hS => ?_)
    have hP : va_P (dC, dI) vwCl [(h0, .inr (0, [.ref a0, .ref a1, .int x0, .int x1, .int x2, .int x3, .int x4, .int x5, .int x6])), (a0, .inr (3, [.int s0, .int s1, .int s2, .int s3, .int s4, .int s5, .int s6, .int s7, .int t_4, .int s9]))] H := hP
    have hD : va_D A [(h0, .inr (0, [.ref a0, .ref a1, .int x0, .int x1, .int x2, .int x3, .int x4, .int x5, .int x6])), (a0, .inr (3, [.int s0, .int s1, .int s2, .int s3, .int s4, .int s5, .int s6, .int s7, .int t_4, .int s9]))] := hD
    refine lv_aload_n hx hb dX0_act_42 rfl (lv_at hl 1 rfl) ?_
    refine va_get (D := (dC, dI)) (ci := 0) (v := .int x2) (C := RX0) (T := TX0) (N := 9) hx hb hts (fun w h => List.mem_cons_of_mem _ (inWX0 w h)) hown hK hP 0 rfl rfl 4 (by decide) (hts _ (List.mem_cons_of_mem _ kw_t1_130)) (fun _ h9 => h9) rfl dX0_act_43 ?_
    refine lv_iconst (v := 1) hx hb dX0_act_46 (by decide) ?_
    refine lv_icmp_eq (tgt := 65) hx hb dX0_act_47 (by decide) (fun c_5 => ?_) (fun c_5 => ?_)
    · exact W.vret hx hb hr (fun t ht hW => ⟨⟨(fun k => [x0, x1, x2, x3, x4, x5, x6, s0, s1, s2, s3, s4, s5, s6, s7, t_4, s9].getD k 0), rfl, trivial, ⟨by rw [ht]; exact hP, va_K.moved hW.alike hK, hD⟩⟩, hS.F ht⟩) hS.2.2 dX0_act_65
    · refine lv_aload_n hx hb dX0_act_50 rfl (lv_at hl 1 rfl) ?_
      refine va_get (D := (dC, dI)) (ci := 0) (v := .ref a0) (C := RX0) (T := TX0) (N := 9) hx hb hts (fun w h => List.mem_cons_of_mem _ (inWX0 w h)) hown hK hP 0 rfl rfl 0 (by decide) (hts _ (List.mem_cons_of_mem _ kw_t1_124)) (fun _ h9 => h9) rfl dX0_act_51 ?_
      refine lv_dup hx hb dX0_act_54 rfl ?_
      refine va_get (D := (dC, dI)) (ci := 3) (v := .int s9) (C := RX3) (T := TX3) (N := 10) hx hb hts (fun w h => List.mem_cons_of_mem _ (inWX3 w h)) hown hK hP 1 rfl rfl 9 (by decide) (hts _ (List.mem_cons_of_mem _ kw_t1_102)) (fun _ h9 => h9) rfl dX0_act_55 ?_
      refine lv_iload_n hx hb dX0_act_58 rfl (lv_at hl 0 rfl) ?_
      refine lv_iconst (v := (-1)) hx hb dX0_act_59 (by decide) ?_
      refine lv_ixor hx hb dX0_act_60 ?_
      refine lv_topi (fun t_6 et_6 => ?_)
      refine lv_iand hx hb dX0_act_61 ?_
      refine lv_topi (fun t_7 et_7 => ?_)
      refine va_put (D := (dC, dI)) (ci := 3) (v := .int t_7) (ty := .int) (C := RX3) (T := TX3) (N := 10) hx hb hts (fun w h => List.mem_cons_of_mem _ (inWX3 w h)) tyX3 tyX3_ok nmX3 hown hK hP hD hS 1 rfl rfl 9 (by decide) (hts _ (List.mem_cons_of_mem _ kw_t1_102)) (fun _ h9 => h9) rfl (by decide +kernel) rfl rfl (Nat.le_of_ble_eq_true rfl) dX0_act_62 (fun H locs hP hD hS => ?_)
      have hP : va_P (dC, dI) vwCl [(h0, .inr (0, [.ref a0, .ref a1, .int x0, .int x1, .int x2, .int x3, .int x4, .int x5, .int x6])), (a0, .inr (3, [.int s0, .int s1, .int s2, .int s3, .int s4, .int s5, .int s6, .int s7, .int t_4, .int t_7]))] H := hP
      have hD : va_D A [(h0, .inr (0, [.ref a0, .ref a1, .int x0, .int x1, .int x2, .int x3, .int x4, .int x5, .int x6])), (a0, .inr (3, [.int s0, .int s1, .int s2, .int s3, .int s4, .int s5, .int s6, .int s7, .int t_4, .int t_7]))] := hD
      exact W.vret hx hb hr (fun t ht hW => ⟨⟨(fun k => [x0, x1, x2, x3, x4, x5, x6, s0, s1, s2, s3, s4, s5, s6, s7, t_4, t_7].getD k 0), rfl, trivial, ⟨by rw [ht]; exact hP, va_K.moved hW.alike hK, hD⟩⟩, hS.F ht⟩) hS.2.2 dX0_act_65
  · refine lv_aload_n hx hb dX0_act_6 rfl (lv_at hl 0 rfl) ?_
    refine va_get (D := (dC, dI)) (ci := 0) (v := .ref a0) (C := RX0) (T := TX0) (N := 9) hx hb hts (fun w h => List.mem_cons_of_mem _ (inWX0 w h)) hown hK hP 0 rfl rfl 0 (by decide) (hts _ (List.mem_cons_of_mem _ kw_t1_124)) (fun _ h9 => h9) rfl dX0_act_7 ?_
    refine lv_dup hx hb dX0_act_10 rfl ?_
    refine va_get (D := (dC, dI)) (ci := 3) (v := .int s7) (C := RX3) (T := TX3) (N := 10) hx hb hts (fun w h => List.mem_cons_of_mem _ (inWX3 w h)) hown hK hP 1 rfl rfl 7 (by decide) (hts _ (List.mem_cons_of_mem _ kw_t1_98)) (fun _ h9 => h9) rfl dX0_act_11 ?_
    refine lv_iconst (v := 1) hx hb dX0_act_14 (by decide) ?_
    refine lv_iload_n hx hb dX0_act_15 rfl (lv_at hl 1 rfl) ?_
    refine lv_ishl hx hb dX0_act_16 ?_
    refine lv_topi (fun t_8 et_8 => ?_)
    refine lv_ior hx hb dX0_act_17 ?_
    refine lv_topi (fun t_9 et_9 => ?_)
    refine va_put (D := (dC, dI)) (ci := 3) (v := .int t_9) (ty := .int) (C := RX3) (T := TX3) (N := 10) hx hb hts (fun w h => List.mem_cons_of_mem _ (inWX3 w h)) tyX3 tyX3_ok nmX3 hown hK hP hD hS 1 rfl rfl 7 (by decide) (hts _ (List.mem_cons_of_mem _ kw_t1_98)) (fun _ h9 => h9) rfl (by decide +kernel) rfl rfl (Nat.le_of_ble_eq_true rfl) dX0_act_18 (fun H locs hP hD hS => ?_)
    have hP : va_P (dC, dI) vwCl [(h0, .inr (0, [.ref a0, .ref a1, .int x0, .int x1, .int x2, .int x3, .int x4, .int x5, .int x6])), (a0, .inr (3, [.int s0, .int s1, .int s2, .int s3, .int s4, .int s5, .int s6, .int t_9, .int s8, .int s9]))] H := hP
    have hD : va_D A [(h0, .inr (0, [.ref a0, .ref a1, .int x0, .int x1, .int x2, .int x3, .int x4, .int x5, .int x6])), (a0, .inr (3, [.int s0, .int s1, .int s2, .int s3, .int s4, .int s5, .int s6, .int t_9, .int s8, .int s9]))] := hD
    exact W.vret hx hb hr (fun t ht hW => ⟨⟨(fun k => [x0, x1, x2, x3, x4, x5, x6, s0, s1, s2, s3, s4, s5, s6, t_9, s8, s9].getD k 0), rfl, trivial, ⟨by rw [ht]; exact hP, va_K.moved hW.alike hK, hD⟩⟩, hS.F ht⟩) hS.2.2 dX0_act_21

set_option maxHeartbeats 4000000 in
set_option maxRecDepth 100000 in
theorem c_X0_notePass (l : Launch) (dC : Nat → ClassId) (dI : Nat → Nat → Nat) (cI cZ cS cC : ClassId) (h0 sz : Nat) (qa : Nat → Nat) (a0 : Nat) (a1 : Nat) (x0 : Int32) (x1 : Int32) (x2 : Int32) (x3 : Int32) (x4 : Int32) (x5 : Int32) (x6 : Int32) (s0 : Int32) (s1 : Int32) (s2 : Int32) (s3 : Int32) (s4 : Int32) (s5 : Int32) (s6 : Int32) (s7 : Int32) (s8 : Int32) (s9 : Int32) (p0 p1 p2 : Int32) : Met l yX0_notePass (Cond.code yX0_notePass cX0_notePass 4 none :: WW) ({ frames := 1, cells := 0, slots := 0, locals := 30 }) (va_Pc [.ref h0, .int p0, .int p1, .int p2] (fun U => U.heap.size = sz ∧ va_P (dC, dI) vwCl [(h0, .inr (0, [.ref a0, .ref a1, .int x0, .int x1, .int x2, .int x3, .int x4, .int x5, .int x6])), (a0, .inr (3, [.int s0, .int s1, .int s2, .int s3, .int s4, .int s5, .int s6, .int s7, .int s8, .int s9]))] U.heap ∧ va_K (dC, dI) vwCl [(cI, .int), (cZ, .boolean), (cS, .object RX3), (cC, .object RX0)] U ∧ va_D (fun _ => True) [(h0, .inr (0, [.ref a0, .ref a1, .int x0, .int x1, .int x2, .int x3, .int x4, .int x5, .int x6])), (a0, .inr (3, [.int s0, .int s1, .int s2, .int s3, .int s4, .int s5, .int s6, .int s7, .int s8, .int s9]))])) (va_Qv (fun (_ : Nat → Int32) => True) (fun (u : Nat → Int32) (t : State) => va_P (dC, dI) vwCl [(h0, .inr (0, [.ref a0, .ref a1, .int (u 0), .int (u 1), .int (u 2), .int (u 3), .int (u 4), .int (u 5), .int (u 6)])), (a0, .inr (3, [.int (u 7), .int (u 8), .int (u 9), .int (u 10), .int (u 11), .int (u 12), .int (u 13), .int (u 14), .int (u 15), .int (u 16)]))] t.heap ∧ va_K (dC, dI) vwCl [(cI, .int), (cZ, .boolean), (cS, .object RX3), (cC, .object RX0)] t ∧ va_D (va_A [(h0, .inr (0, [.ref a0, .ref a1, .int x0, .int x1, .int x2, .int x3, .int x4, .int x5, .int x6])), (a0, .inr (3, [.int s0, .int s1, .int s2, .int s3, .int s4, .int s5, .int s6, .int s7, .int s8, .int s9]))] sz) [(h0, .inr (0, [.ref a0, .ref a1, .int (u 0), .int (u 1), .int (u 2), .int (u 3), .int (u 4), .int (u 5), .int (u 6)])), (a0, .inr (3, [.int (u 7), .int (u 8), .int (u 9), .int (u 10), .int (u 11), .int (u 12), .int (u 13), .int (u 14), .int (u 15), .int (u 16)]))]) (va_A [(h0, .inr (0, [.ref a0, .ref a1, .int x0, .int x1, .int x2, .int x3, .int x4, .int x5, .int x6])), (a0, .inr (3, [.int s0, .int s1, .int s2, .int s3, .int s4, .int s5, .int s6, .int s7, .int s8, .int s9]))] sz)) 0 0 (va_A [(h0, .inr (0, [.ref a0, .ref a1, .int x0, .int x1, .int x2, .int x3, .int x4, .int x5, .int x6])), (a0, .inr (3, [.int s0, .int s1, .int s2, .int s3, .int s4, .int s5, .int s6, .int s7, .int s8, .int s9]))] sz) := by
  refine Met.ofW (cc := cX0_notePass) (maxL := 4) (ret := none) (by decide) rfl ?_
  intro p e s m args below meth c s₁ B hml hv
  obtain ⟨rfl, hsz, hP, hK, hD0⟩ := hv
  have hx := B.exec
  have hb := B.bytes
  have hr := B.returns
  have hts := atoms_spec (ws := Cond.code yX0_notePass cX0_notePass 4 none :: WW) B.pre
  have hown : s.vm.findClass RX0 = some m.cls := findClass_of_methodNamed B.named
  have hlocks := B.notSynchronized
  subst hsz
  have hD := hD0.self (sz := s.heap.size)
  generalize hAe : va_A [(h0, .inr (0, [.ref a0, .ref a1, .int x0, .int x1, .int x2, .int x3, .int x4, .int x5, .int x6])), (a0, .inr (3, [.int s0, .int s1, .int s2, .int s3, .int s4, .int s5, .int s6, .int s7, .int s8, .int s9]))] s.heap.size = A at hD ⊢
  have hA : ∀ q : Nat, s.heap.size ≤ q → A q := fun q h => by rw [← hAe]; exact Or.inr h
  have hS : va_S A s.heap s.heap [] := va_S.rf
  have hP : va_P (dC, dI) vwCl [(h0, .inr (0, [.ref a0, .ref a1, .int x0, .int x1, .int x2, .int x3, .int x4, .int x5, .int x6])), (a0, .inr (3, [.int s0, .int s1, .int s2, .int s3, .int s4, .int s5, .int s6, .int s7, .int s8, .int s9]))] s.heap := hP
  have hl := lv_entry ([.ref h0, .int p0, .int p1, .int p2]) (n := 4) (Nat.le_of_ble_eq_true rfl)
  rw [lg_entry_eq]
  generalize (lg_sl ([.ref h0, .int p0, .int p1, .int p2]) ++ List.replicate (4 - (lg_sl ([.ref h0, .int p0, .int p1, .int p2])).length) Slot.unset).toArray = ls at hl ⊢
  have hl : lv_has ls 4 [(0, .ref h0), (1, .int p0), (2, .int p1), (3, .int p2)] := hl
  refine lv_aload_n hx hb dX0_notePass_0 rfl (lv_at hl 0 rfl) ?_
  have hPc := hP.sub (ws' := [(h0, .inr (0, [.ref a0, .ref a1, .int x0, .int x1, .int x2, .int x3, .int x4, .int x5, .int x6]))]) [0] rfl
  have hDc := hD.sub (ws' := [(h0, .inr (0, [.ref a0, .ref a1, .int x0, .int x1, .int x2, .int x3, .int x4, .int x5, .int x6]))]) [0] (by decide) rfl
  have hFc : ∀ q, va_A ([] : va_W) s.heap.size q → A q := va_free (wc := []) (ws := []) kt_D0 hS hA [] rfl
  refine va_calli (va_runV (As := []) (rest := []) ⟨hx, hb, hml, hown, hts⟩ (c_X0_goesOn l dC dI cI cZ cS cC h0 s.heap.size (fun _ => 0) a0 a1 x0 x1 x2 x3 x4 x5 x6) (cwV 0 hts (gV (fun w h => List.mem_cons_of_mem _ h) kw_t2_84 kw_t2_7 kw_t2_8 kw_t1_5 kw_t2_9) rfl rfl rfl (by decide +kernel) ⟨Nat.le_of_ble_eq_true rfl, Nat.le_of_ble_eq_true rfl⟩) ⟨fun a U g mk q => by obtain ⟨q0, q1, qP, qK, qD⟩ := q; exact ⟨q0, q1, qP, va_K.moved (u := U) (U := U.calling g mk a) (Vm.Alike.refl U.vm) qK, qD⟩, va_recv hK hP (ci := 0) (q0 := 0) rfl rfl, fun U hU hW => ⟨rfl, by rw [hU], by rw [hU]; exact hPc, va_K.moved hW.alike hK, hDc.weaken (fun _ _ _ _ => trivial)⟩⟩ rfl rfl hl.1 rfl (lv_room (Nat.le_of_ble_eq_true rfl)) dX0_notePass_1 ⟨Nat.le_of_ble_eq_true rfl, Nat.le_of_ble_eq_true rfl⟩) hS (fun q _ h => hFc q h) hFc (fun r_1 u_1 t H1 locs ht hvm hw_1 hB hz1 hk1 hS => ?_)
  obtain ⟨hP, hD⟩ := va_join (wc := []) (wr := [(h0, .inr (0, [.ref a0, .ref a1, .int x0, .int x1, .int x2, .int x3, .int x4, .int x5, .int x6])), (a0, .inr (3, [.int s0, .int s1, .int s2, .int s3, .int s4, .int s5, .int s6, .int s7, .int s8, .int s9]))]) (w1 := []) hP hD [] [0, 1] rfl rfl (by decide) (by decide) hk1 hFc kt_P0 kt_D0
  generalize H1 = H at hP hS ⊢
  have hP : va_P (dC, dI) vwCl [(h0, .inr (0, [.ref a0, .ref a1, .int x0, .int x1, .int x2, .int x3, .int x4, .int x5, .int x6])), (a0, .inr (3, [.int s0, .int s1, .int s2, .int s3, .int s4, .int s5, .int s6, .int s7, .int s8, .int s9]))] H := hP
  have hD : va_D A [(h0, .inr (0, [.ref a0, .ref a1, .int x0, .int x1, .int x2, .int x3, .int x4, .int x5, .int x6])), (a0, .inr (3, [.int s0, .int s1, .int s2, .int s3, .int s4, .int s5, .int s6, .int s7, .int s8, .int s9]))] := hD
  rcases hw_1 with hw_1h | hw_1h
  · subst hw_1h
    refine lv_if_eq (tgt := 35) hx hb dX0_notePass_4 (by decide) (fun c_2 => ?_) (fun c_2 => absurd (by decide) c_2)
    exact W.vret hx hb hr (fun t ht hW => ⟨⟨(fun k => [x0, x1, x2, x3, x4, x5, x6, s0, s1, s2, s3, s4, s5, s6, s7, s8, s9].getD k 0), rfl, trivial, ⟨by rw [ht]; exact hP, va_K.moved hW.alike hK, hD⟩⟩, hS.F ht⟩) hS.2.2 dX0_notePass_35
  · subst hw_1h
    refine lv_if_eq (tgt := 35) hx hb dX0_notePass_4 (by decide) (fun c_3 => absurd c_3 (by decide)) (fun c_3 => ?_)
    refine lv_iload_n hx hb dX0_notePass_7 rfl (lv_at hl 2 rfl) ?_
    refine lv_aload_n hx hb dX0_notePass_8 rfl (lv_at hl 0 rfl) ?_
    refine va_get (D := (dC, dI)) (ci := 0) (v := .ref a0) (C := RX0) (T := TX0) (N := 9) hx hb hts (fun w h => List.mem_cons_of_mem _ (inWX0 w h)) hown hK hP 0 rfl rfl 0 (by decide) (hts _ (List.mem_cons_of_mem _ kw_t1_124)) (fun _ h9 => h9) rfl dX0_notePass_9 ?_
    refine va_get (D := (dC, dI)) (ci := 3) (v := .int s4) (C := RX3) (T := TX3) (N := 10) hx hb hts (fun w h => List.mem_cons_of_mem _ (inWX3 w h)) hown hK hP 1 rfl rfl 4 (by decide) (hts _ (List.mem_cons_of_mem _ kw_t1_93)) (fun _ h9 => h9) rfl dX0_notePass_12 ?_
    refine lv_icmp_ge (tgt := 35) hx hb dX0_notePass_15 (by decide) (fun c_4 => ?_) (fun c_4 => ?_)
    · exact W.vret hx hb hr (fun t ht hW => ⟨⟨(fun k => [x0, x1, x2, x3, x4, x5, x6, s0, s1, s2, s3, s4, s5, s6, s7, s8, s9].getD k 0), rfl, trivial, ⟨by rw [ht]; exact hP, va_K.moved hW.alike hK, hD⟩⟩, hS.F ht⟩) hS.2.2 dX0_notePass_35
    · refine lv_aload_n hx hb dX0_notePass_18 rfl (lv_at hl 0 rfl) ?_
      refine lv_dup hx hb dX0_notePass_19 rfl ?_
      refine va_get (D := (dC, dI)) (ci := 0) (v := .int x4) (C := RX0) (T := TX0) (N := 9) hx hb hts (fun w h => List.mem_cons_of_mem _ (inWX0 w h)) hown hK hP 0 rfl rfl 6 (by decide) (hts _ (List.mem_cons_of_mem _ kw_t1_134)) (fun _ h9 => h9) rfl dX0_notePass_20 ?_
      refine lv_iconst (v := 1) hx hb dX0_notePass_23 (by decide) ?_
      refine lv_iload_n hx hb dX0_notePass_24 rfl (lv_at hl 1 rfl) ?_
      refine lv_ishl hx hb dX0_notePass_25 ?_
      refine lv_topi (fun t_5 et_5 => ?_)
      refine lv_ior hx hb dX0_notePass_26 ?_
      refine lv_topi (fun t_6 et_6 => ?_)
      refine va_put (D := (dC, dI)) (ci := 0) (v := .int t_6) (ty := .int) (C := RX0) (T := TX0) (N := 9) hx hb hts (fun w h => List.mem_cons_of_mem _ (inWX0 w h)) tyX0 tyX0_ok nmX0 hown hK hP hD hS 0 rfl rfl 6 (by decide) (hts _ (List.mem_cons_of_mem _ kw_t1_134)) (fun _ h9 => h9) rfl (by decide +kernel) rfl rfl (Nat.le_of_ble_eq_true rfl) dX0_notePass_27 (fun H locs hP hD hS => ?_)
      have hP : va_P (dC, dI) vwCl [(h0, .inr (0, [.ref a0, .ref a1, .int x0, .int x1, .int x2, .int x3, .int t_6, .int x5, .int x6])), (a0, .inr (3, [.int s0, .int s1, .int s2, .int s3, .int s4, .int s5, .int s6, .int s7, .int s8, .int s9]))] H := hP
      have hD : va_D A [(h0, .inr (0, [.ref a0, .ref a1, .int x0, .int x1, .int x2, .int x3, .int t_6, .int x5, .int x6])), (a0, .inr (3, [.int s0, .int s1, .int s2, .int s3, .int s4, .int s5, .int s6, .int s7, .int s8, .int s9]))] := hD
      refine lv_aload_n hx hb dX0_notePass_30 rfl (lv_at hl 0 rfl) ?_
      refine lv_iload_n hx hb dX0_notePass_31 rfl (lv_at hl 3 rfl) ?_
      refine va_put (D := (dC, dI)) (ci := 0) (v := .int p2) (ty := .int) (C := RX0) (T := TX0) (N := 9) hx hb hts (fun w h => List.mem_cons_of_mem _ (inWX0 w h)) tyX0 tyX0_ok nmX0 hown hK hP hD hS 0 rfl rfl 7 (by decide) (hts _ (List.mem_cons_of_mem _ kw_t1_136)) (fun _ h9 => h9) rfl (by decide +kernel) rfl rfl (Nat.le_of_ble_eq_true rfl) dX0_notePass_32 (fun H locs hP hD hS => ?_)
      have hP : va_P (dC, dI) vwCl [(h0, .inr (0, [.ref a0, .ref a1, .int x0, .int x1, .int x2, .int x3, .int t_6, .int p2, .int x6])), (a0, .inr (3, [.int s0, .int s1, .int s2, .int s3, .int s4, .int s5, .int s6, .int s7, .int s8, .int s9]))] H := hP
      have hD : va_D A [(h0, .inr (0, [.ref a0, .ref a1, .int x0, .int x1, .int x2, .int x3, .int t_6, .int p2, .int x6])), (a0, .inr (3, [.int s0, .int s1, .int s2, .int s3, .int s4, .int s5, .int s6, .int s7, .int s8, .int s9]))] := hD
      exact W.vret hx hb hr (fun t ht hW => ⟨⟨(fun k => [x0, x1, x2, x3, t_6, p2, x6, s0, s1, s2, s3, s4, s5, s6, s7, s8, s9].getD k 0), rfl, trivial, ⟨by rw [ht]; exact hP, va_K.moved hW.alike hK, hD⟩⟩, hS.F ht⟩) hS.2.2 dX0_notePass_35
