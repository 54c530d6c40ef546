set_option maxHeartbeats 4000000 in
set_option maxRecDepth 100000 in
theorem c_X0_endOfWait (l : Launch) (dC : Nat → ClassId) (dI : Nat → Nat → Nat) (cI cZ cS cC cJ : ClassId) (a : Nat → Nat) (v : Nat → Nat → Int32) (sz : Nat) (i : Nat) (hi : i < 12) (p0 p1 : Int32) (hD : mDD a) (hI : kI v v) : Met l yX0_endOfWait (Cond.code yX0_endOfWait cX0_endOfWait 3 (some .int) :: WW) ({ frames := 1, cells := 0, slots := 0, locals := 30 }) (va_Pc [.ref (a (9 + 3 * i)), .int p0, .int p1] (fun U => U.heap.size = sz ∧ va_P (dC, dI) vwCl (mW cI cZ cS cC cJ a v) U.heap ∧ va_K (dC, dI) vwCl [(cI, .int), (cZ, .boolean), (cS, .object RX3), (cC, .object RX0), (cJ, .long)] U ∧ mN U)) (va_Qi (fun (r : Int32) (_u : Unit) => True) (fun (_ : Unit) (t : State) => va_P (dC, dI) vwCl (mW cI cZ cS cC cJ a v) t.heap) (mA a sz)) 0 0 (mA a sz) := by
  refine Met.ofW (cc := cX0_endOfWait) (maxL := 3) (ret := (some .int)) (by decide) rfl ?_
  intro p e s m args below meth c s₁ B hml hv
  obtain ⟨rfl, hsz, hP, hK, hN⟩ := hv
  have hx := B.exec
  have hb := B.bytes
  have hr := B.returns
  have hts := atoms_spec (ws := Cond.code yX0_endOfWait cX0_endOfWait 3 (some .int) :: WW) B.pre
  have hown : s.vm.findClass RX0 = some m.cls := findClass_of_methodNamed B.named
  have hlocks := B.notSynchronized
  subst hsz
  have hAc : ∀ c, c < 81 → mA a s.heap.size (a c) := fun c h => Or.inl ⟨c, h, rfl⟩
  have hA : ∀ q : Nat, s.heap.size ≤ q → mA a s.heap.size q := fun q h => Or.inr h
  generalize hAe : mA a s.heap.size = A at hAc hA ⊢
  have hS : va_S A s.heap s.heap [] := va_S.rf
  have hl := lv_entry ([.ref (a (9 + 3 * i)), .int p0, .int p1]) (n := 3) (Nat.le_of_ble_eq_true rfl)
  rw [lg_entry_eq]
  generalize (lg_sl ([.ref (a (9 + 3 * i)), .int p0, .int p1]) ++ List.replicate (3 - (lg_sl ([.ref (a (9 + 3 * i)), .int p0, .int p1])).length) Slot.unset).toArray = ls at hl ⊢
  have hl : lv_has ls 3 [(0, .ref (a (9 + 3 * i))), (1, .int p0), (2, .int p1)] := hl
  refine lv_aload_n hx hb dX0_endOfWait_0 rfl (lv_at hl 0 rfl) ?_
  refine va_get (D := (dC, dI)) (ci := 0) (v := .int (v (9 + 3 * i) 7)) (C := RX0) (T := TX0) (N := 9) hx hb hts (fun w h => List.mem_cons_of_mem _ (inWX0 w h)) hown hK hP (9 + 3 * i) (at_C hi) rfl 7 (by decide) (hts _ (List.mem_cons_of_mem _ kw_t1_136)) (fun _ h9 => h9) rfl dX0_endOfWait_1 ?_
  refine lv_topi (fun t_1 et_1 => ?_)
  refine lv_iload_n hx hb dX0_endOfWait_4 rfl (lv_at hl 1 rfl) ?_
  refine lv_iadd hx hb dX0_endOfWait_5 ?_
  refine lv_topi (fun t_2 et_2 => ?_)
  refine lv_aload_n hx hb dX0_endOfWait_6 rfl (lv_at hl 0 rfl) ?_
  refine va_get (D := (dC, dI)) (ci := 0) (v := .int (v (9 + 3 * i) 5)) (C := RX0) (T := TX0) (N := 9) hx hb hts (fun w h => List.mem_cons_of_mem _ (inWX0 w h)) hown hK hP (9 + 3 * i) (at_C hi) rfl 5 (by decide) (hts _ (List.mem_cons_of_mem _ kw_t1_132)) (fun _ h9 => h9) rfl dX0_endOfWait_7 ?_
  refine lv_topi (fun t_3 et_3 => ?_)
  refine lv_iload_n hx hb dX0_endOfWait_10 rfl (lv_at hl 2 rfl) ?_
  refine lv_iadd hx hb dX0_endOfWait_11 ?_
  refine lv_topi (fun t_4 et_4 => ?_)
  refine va_mmin hx hb (hml.trans hl.1.symm) hown (hts _ (List.mem_cons_of_mem _ kw_t2_68)) (hts _ (List.mem_cons_of_mem _ kw_t2_69)) (hts _ (List.mem_cons_of_mem _ kw_t1_8)) (hts _ (List.mem_cons_of_mem _ kw_t2_70)) (Nat.le_of_ble_eq_true rfl) (Nat.le_of_ble_eq_true rfl) (Nat.zero_le _) (Nat.zero_le _) dX0_endOfWait_12 ?_
  refine lv_topi (fun t_5 et_5 => ?_)
  exact W.iret (v := t_5) hx hb hr (fun t ht hW => ⟨⟨t_5, (), rfl, trivial, kt_heap ht hP⟩, hS.F ht⟩) hS.2.2 dX0_endOfWait_15

set_option maxHeartbeats 4000000 in
set_option maxRecDepth 100000 in
theorem c_X0_isStepOver (l : Launch) (dC : Nat → ClassId) (dI : Nat → Nat → Nat) (cI cZ cS cC cJ : ClassId) (a : Nat → Nat) (v : Nat → Nat → Int32) (sz : Nat) (i : Nat) (hi : i < 12) (p0 p1 p2 : Int32) (hD : mDD a) (hI : kI v v) : Met l yX0_isStepOver (Cond.code yX0_isStepOver cX0_isStepOver 4 (some .boolean) :: WW) ({ frames := 2, cells := 0, slots := 0, locals := 60 }) (va_Pc [.ref (a (9 + 3 * i)), .int p0, .int p1, .int p2] (fun U => U.heap.size = sz ∧ va_P (dC, dI) vwCl (mW cI cZ cS cC cJ a v) U.heap ∧ va_K (dC, dI) vwCl [(cI, .int), (cZ, .boolean), (cS, .object RX3), (cC, .object RX0), (cJ, .long)] U ∧ mN U)) (va_Qi (fun (r : Int32) (_u : Unit) => (r = 0 ∨ r = 1)) (fun (_ : Unit) (t : State) => va_P (dC, dI) vwCl (mW cI cZ cS cC cJ a v) t.heap) (mA a sz)) 0 0 (mA a sz) := by
  refine Met.ofW (cc := cX0_isStepOver) (maxL := 4) (ret := (some .boolean)) (by decide) rfl ?_
  intro p e s m args below meth c s₁ B hml hv
  obtain ⟨rfl, hsz, hP, hK, hN⟩ := hv
  have hx := B.exec
  have hb := B.bytes
  have hr := B.returns
  have hts := atoms_spec (ws := Cond.code yX0_isStepOver cX0_isStepOver 4 (some .boolean) :: WW) B.pre
  have hown : s.vm.findClass RX0 = some m.cls := findClass_of_methodNamed B.named
  have hlocks := B.notSynchronized
  subst hsz
  have hAc : ∀ c, c < 81 → mA a s.heap.size (a c) := fun c h => Or.inl ⟨c, h, rfl⟩
  have hA : ∀ q : Nat, s.heap.size ≤ q → mA a s.heap.size q := fun q h => Or.inr h
  generalize hAe : mA a s.heap.size = A at hAc hA ⊢
  have hS : va_S A s.heap s.heap [] := va_S.rf
  have hl := lv_entry ([.ref (a (9 + 3 * i)), .int p0, .int p1, .int p2]) (n := 4) (Nat.le_of_ble_eq_true rfl)
  rw [lg_entry_eq]
  generalize (lg_sl ([.ref (a (9 + 3 * i)), .int p0, .int p1, .int p2]) ++ List.replicate (4 - (lg_sl ([.ref (a (9 + 3 * i)), .int p0, .int p1, .int p2])).length) Slot.unset).toArray = ls at hl ⊢
  have hl : lv_has ls 4 [(0, .ref (a (9 + 3 * i))), (1, .int p0), (2, .int p1), (3, .int p2)] := hl
  refine lv_aload_n hx hb dX0_isStepOver_0 rfl (lv_at hl 0 rfl) ?_
  refine va_get (D := (dC, dI)) (ci := 0) (v := .int (v (9 + 3 * i) 4)) (C := RX0) (T := TX0) (N := 9) hx hb hts (fun w h => List.mem_cons_of_mem _ (inWX0 w h)) hown hK hP (9 + 3 * i) (at_C hi) rfl 4 (by decide) (hts _ (List.mem_cons_of_mem _ kw_t1_130)) (fun _ h9 => h9) rfl dX0_isStepOver_1 ?_
  refine lv_topi (fun t_1 et_1 => ?_)
  refine lv_iconst (v := 3) hx hb dX0_isStepOver_4 (by decide) ?_
  refine lv_icmp_ne (tgt := 24) hx hb dX0_isStepOver_5 (by decide) (fun c_2 => ?_) (fun c_2 => ?_)
  · refine lv_aload_n hx hb dX0_isStepOver_24 rfl (lv_at hl 0 rfl) ?_
    have hFc := mA_free (a := a) hS hA hAc
    refine va_calli (va_runV (As := []) (rest := []) ⟨hx, hb, hml, hown, hts⟩ (c_X0_goesOn l dC dI cI cZ cS cC cJ a v s.heap.size i hi hD hI.self) (cwV 0 hts (gV (fun w h => List.mem_cons_of_mem _ h) kw_t2_84 kw_t2_7 kw_t2_8 kw_t1_5 kw_t2_9) rfl rfl rfl (by decide +kernel) ⟨Nat.le_of_ble_eq_true rfl, Nat.le_of_ble_eq_true rfl⟩) ⟨fun av U g mk q => by obtain ⟨q0, q1, qP, qK, qN⟩ := q; exact ⟨q0, q1, qP, va_K.moved (u := U) (U := U.calling g mk av) (Vm.Alike.refl U.vm) qK, mN_same qN⟩, va_recv hK hP (ci := 0) (q0 := (9 + 3 * i)) rfl (at_C hi), fun U hU hW => ⟨rfl, by rw [hU], by rw [hU]; exact hP, va_K.moved hW.alike hK, mN_warm hW hN⟩⟩ rfl rfl hl.1 rfl (lv_room (Nat.le_of_ble_eq_true rfl)) dX0_isStepOver_25 ⟨Nat.le_of_ble_eq_true rfl, Nat.le_of_ble_eq_true rfl⟩) hS (fun q _ h => hFc q h) hFc (fun r_3 _ t H locs ht hvm hw_3 hP _ _ hS => ?_)
    have hP := kt_heap2 ht hP
    clear ht hFc
    have hP : va_P (dC, dI) vwCl (mW cI cZ cS cC cJ a v) H := hP
    refine lv_if_eq (tgt := 42) hx hb dX0_isStepOver_28 (by decide) (fun c_4 => ?_) (fun c_4 => ?_)
    · refine lv_iconst (v := 0) hx hb dX0_isStepOver_42 (by decide) ?_
      exact W.zret (v := 0) (ty := .boolean) hx hb hr rfl (fun t ht hW => ⟨⟨0, (), rfl, (Or.inl rfl), kt_heap ht hP⟩, hS.F ht⟩) hS.2.2 dX0_isStepOver_43
    · refine lv_aload_n hx hb dX0_isStepOver_31 rfl (lv_at hl 0 rfl) ?_
      refine va_get (D := (dC, dI)) (ci := 0) (v := .int (v (9 + 3 * i) 2)) (C := RX0) (T := TX0) (N := 9) hx hb hts (fun w h => List.mem_cons_of_mem _ (inWX0 w h)) hown hK hP (9 + 3 * i) (at_C hi) rfl 2 (by decide) (hts _ (List.mem_cons_of_mem _ kw_t1_127)) (fun _ h9 => h9) rfl dX0_isStepOver_32 ?_
      refine lv_topi (fun t_5 et_5 => ?_)
      refine lv_if_ne (tgt := 42) hx hb dX0_isStepOver_35 (by decide) (fun c_6 => ?_) (fun c_6 => ?_)
      · refine lv_iconst (v := 0) hx hb dX0_isStepOver_42 (by decide) ?_
        exact W.zret (v := 0) (ty := .boolean) hx hb hr rfl (fun t ht hW => ⟨⟨0, (), rfl, (Or.inl rfl), kt_heap ht hP⟩, hS.F ht⟩) hS.2.2 dX0_isStepOver_43
      · refine lv_iconst (v := 1) hx hb dX0_isStepOver_38 (by decide) ?_
        refine lv_goto (tgt := 43) hx hb dX0_isStepOver_39 (by decide) ?_
        exact W.zret (v := 1) (ty := .boolean) hx hb hr rfl (fun t ht hW => ⟨⟨1, (), rfl, (Or.inr rfl), kt_heap ht hP⟩, hS.F ht⟩) hS.2.2 dX0_isStepOver_43
  · refine lv_iload_n hx hb dX0_isStepOver_8 rfl (lv_at hl 1 rfl) ?_
    refine lv_aload_n hx hb dX0_isStepOver_9 rfl (lv_at hl 0 rfl) ?_
    refine lv_iload_n hx hb dX0_isStepOver_10 rfl (lv_at hl 2 rfl) ?_
    refine lv_iload_n hx hb dX0_isStepOver_11 rfl (lv_at hl 3 rfl) ?_
    have hFc := mA_free (a := a) hS hA hAc
    refine va_calli (va_runV (As := [.int p1, .int p2]) (rest := [.int p0]) ⟨hx, hb, hml, hown, hts⟩ (c_X0_endOfWait l dC dI cI cZ cS cC cJ a v s.heap.size i hi p1 p2 hD hI.self) (cwV 2 hts (gV (fun w h => List.mem_cons_of_mem _ h) kw_t2_76 kw_t2_77 kw_t2_78 kw_t1_5 kw_t2_79) rfl rfl rfl (by decide +kernel) ⟨Nat.le_of_ble_eq_true rfl, Nat.le_of_ble_eq_true rfl⟩) ⟨fun av U g mk q => by obtain ⟨q0, q1, qP, qK, qN⟩ := q; exact ⟨q0, q1, qP, va_K.moved (u := U) (U := U.calling g mk av) (Vm.Alike.refl U.vm) qK, mN_same qN⟩, va_recv hK hP (ci := 0) (q0 := (9 + 3 * i)) rfl (at_C hi), fun U hU hW => ⟨rfl, by rw [hU], by rw [hU]; exact hP, va_K.moved hW.alike hK, mN_warm hW hN⟩⟩ rfl rfl hl.1 rfl (lv_room (Nat.le_of_ble_eq_true rfl)) dX0_isStepOver_12 ⟨Nat.le_of_ble_eq_true rfl, Nat.le_of_ble_eq_true rfl⟩) hS (fun q _ h => hFc q h) hFc (fun r_7 _ t H locs ht hvm hw_7 hP _ _ hS => ?_)
    have hP := kt_heap2 ht hP
    clear ht hFc
    have hP : va_P (dC, dI) vwCl (mW cI cZ cS cC cJ a v) H := hP
    refine lv_icmp_lt (tgt := 22) hx hb dX0_isStepOver_15 (by decide) (fun c_8 => ?_) (fun c_8 => ?_)
    · refine lv_iconst (v := 0) hx hb dX0_isStepOver_22 (by decide) ?_
      exact W.zret (v := 0) (ty := .boolean) hx hb hr rfl (fun t ht hW => ⟨⟨0, (), rfl, (Or.inl rfl), kt_heap ht hP⟩, hS.F ht⟩) hS.2.2 dX0_isStepOver_23
    · refine lv_iconst (v := 1) hx hb dX0_isStepOver_18 (by decide) ?_
      refine lv_goto (tgt := 23) hx hb dX0_isStepOver_19 (by decide) ?_
      exact W.zret (v := 1) (ty := .boolean) hx hb hr rfl (fun t ht hW => ⟨⟨1, (), rfl, (Or.inr rfl), kt_heap ht hP⟩, hS.F ht⟩) hS.2.2 dX0_isStepOver_23

set_option maxHeartbeats 4000000 in
set_option maxRecDepth 100000 in
theorem c_X0_nextStepEnd (l : Launch) (dC : Nat → ClassId) (dI : Nat → Nat → Nat) (cI cZ cS cC cJ : ClassId) (a : Nat → Nat) (v : Nat → Nat → Int32) (sz : Nat) (i : Nat) (hi : i < 12) (p0 p1 p2 p3 : Int32) (hD : mDD a) (hI : kI v v) : Met l yX0_nextStepEnd (Cond.code yX0_nextStepEnd cX0_nextStepEnd 5 (some .int) :: WW) ({ frames := 3, cells := 0, slots := 0, locals := 90 }) (va_Pc [.ref (a (9 + 3 * i)), .int p0, .int p1, .int p2, .int p3] (fun U => U.heap.size = sz ∧ va_P (dC, dI) vwCl (mW cI cZ cS cC cJ a v) U.heap ∧ va_K (dC, dI) vwCl [(cI, .int), (cZ, .boolean), (cS, .object RX3), (cC, .object RX0), (cJ, .long)] U ∧ mN U)) (va_Qi (fun (r : Int32) (_u : Unit) => True) (fun (_ : Unit) (t : State) => va_P (dC, dI) vwCl (mW cI cZ cS cC cJ a v) t.heap) (mA a sz)) 0 0 (mA a sz) := by
  refine Met.ofW (cc := cX0_nextStepEnd) (maxL := 5) (ret := (some .int)) (by decide) rfl ?_
  intro p e s m args below meth c s₁ B hml hv
  obtain ⟨rfl, hsz, hP, hK, hN⟩ := hv
  have hx := B.exec
  have hb := B.bytes
  have hr := B.returns
  have hts := atoms_spec (ws := Cond.code yX0_nextStepEnd cX0_nextStepEnd 5 (some .int) :: WW) B.pre
  have hown : s.vm.findClass RX0 = some m.cls := findClass_of_methodNamed B.named
  have hlocks := B.notSynchronized
  subst hsz
  have hAc : ∀ c, c < 81 → mA a s.heap.size (a c) := fun c h => Or.inl ⟨c, h, rfl⟩
  have hA : ∀ q : Nat, s.heap.size ≤ q → mA a s.heap.size q := fun q h => Or.inr h
  generalize hAe : mA a s.heap.size = A at hAc hA ⊢
  have hS : va_S A s.heap s.heap [] := va_S.rf
  have hl := lv_entry ([.ref (a (9 + 3 * i)), .int p0, .int p1, .int p2, .int p3]) (n := 5) (Nat.le_of_ble_eq_true rfl)
  rw [lg_entry_eq]
  generalize (lg_sl ([.ref (a (9 + 3 * i)), .int p0, .int p1, .int p2, .int p3]) ++ List.replicate (5 - (lg_sl ([.ref (a (9 + 3 * i)), .int p0, .int p1, .int p2, .int p3])).length) Slot.unset).toArray = ls at hl ⊢
  have hl : lv_has ls 5 [(0, .ref (a (9 + 3 * i))), (1, .int p0), (2, .int p1), (3, .int p2), (4, .int p3)] := hl
  refine lv_aload_n hx hb dX0_nextStepEnd_0 rfl (lv_at hl 0 rfl) ?_
  refine va_get (D := (dC, dI)) (ci := 0) (v := .int (v (9 + 3 * i) 4)) (C := RX0) (T := TX0) (N := 9) hx hb hts (fun w h => List.mem_cons_of_mem _ (inWX0 w h)) hown hK hP (9 + 3 * i) (at_C hi) rfl 4 (by decide) (hts _ (List.mem_cons_of_mem _ kw_t1_130)) (fun _ h9 => h9) rfl dX0_nextStepEnd_1 ?_
  refine lv_topi (fun t_1 et_1 => ?_)
  refine lv_iconst (v := 3) hx hb dX0_nextStepEnd_4 (by decide) ?_
  refine lv_icmp_ne (tgt := 16) hx hb dX0_nextStepEnd_5 (by decide) (fun c_2 => ?_) (fun c_2 => ?_)
  · refine lv_aload_n hx hb dX0_nextStepEnd_16 rfl (lv_at hl 0 rfl) ?_
    refine lv_iload_n hx hb dX0_nextStepEnd_17 rfl (lv_at hl 2 rfl) ?_
    refine lv_iload_n hx hb dX0_nextStepEnd_18 rfl (lv_at hl 3 rfl) ?_
    refine lv_iload hx hb dX0_nextStepEnd_19 (lv_at hl 4 rfl) ?_
    have hFc := mA_free (a := a) hS hA hAc
    refine va_calli (va_runV (As := [.int p1, .int p2, .int p3]) (rest := []) ⟨hx, hb, hml, hown, hts⟩ (c_X0_isStepOver l dC dI cI cZ cS cC cJ a v s.heap.size i hi p1 p2 p3 hD hI.self) (cwV 3 hts (gV (fun w h => List.mem_cons_of_mem _ h) kw_t2_80 kw_t2_81 kw_t2_82 kw_t1_5 kw_t2_83) rfl rfl rfl (by decide +kernel) ⟨Nat.le_of_ble_eq_true rfl, Nat.le_of_ble_eq_true rfl⟩) ⟨fun av U g mk q => by obtain ⟨q0, q1, qP, qK, qN⟩ := q; exact ⟨q0, q1, qP, va_K.moved (u := U) (U := U.calling g mk av) (Vm.Alike.refl U.vm) qK, mN_same qN⟩, va_recv hK hP (ci := 0) (q0 := (9 + 3 * i)) rfl (at_C hi), fun U hU hW => ⟨rfl, by rw [hU], by rw [hU]; exact hP, va_K.moved hW.alike hK, mN_warm hW hN⟩⟩ rfl rfl hl.1 rfl (lv_room (Nat.le_of_ble_eq_true rfl)) dX0_nextStepEnd_21 ⟨Nat.le_of_ble_eq_true rfl, Nat.le_of_ble_eq_true rfl⟩) hS (fun q _ h => hFc q h) hFc (fun r_3 _ t H locs ht hvm hw_3 hP _ _ hS => ?_)
    have hP := kt_heap2 ht hP
    clear ht hFc
    have hP : va_P (dC, dI) vwCl (mW cI cZ cS cC cJ a v) H := hP
    refine lv_if_eq (tgt := 31) hx hb dX0_nextStepEnd_24 (by decide) (fun c_4 => ?_) (fun c_4 => ?_)
    · refine lv_iload_n hx hb dX0_nextStepEnd_31 rfl (lv_at hl 1 rfl) ?_
      exact W.iret (v := p0) hx hb hr (fun t ht hW => ⟨⟨p0, (), rfl, trivial, kt_heap ht hP⟩, hS.F ht⟩) hS.2.2 dX0_nextStepEnd_32
    · refine lv_iload_n hx hb dX0_nextStepEnd_27 rfl (lv_at hl 2 rfl) ?_
      refine lv_goto (tgt := 32) hx hb dX0_nextStepEnd_28 (by decide) ?_
      exact W.iret (v := p1) hx hb hr (fun t ht hW => ⟨⟨p1, (), rfl, trivial, kt_heap ht hP⟩, hS.F ht⟩) hS.2.2 dX0_nextStepEnd_32
  · refine lv_aload_n hx hb dX0_nextStepEnd_8 rfl (lv_at hl 0 rfl) ?_
    refine lv_iload_n hx hb dX0_nextStepEnd_9 rfl (lv_at hl 3 rfl) ?_
    refine lv_iload hx hb dX0_nextStepEnd_10 (lv_at hl 4 rfl) ?_
    have hFc := mA_free (a := a) hS hA hAc
    refine va_calli (va_runV (As := [.int p2, .int p3]) (rest := []) ⟨hx, hb, hml, hown, hts⟩ (c_X0_endOfWait l dC dI cI cZ cS cC cJ a v s.heap.size i hi p2 p3 hD hI.self) (cwV 2 hts (gV (fun w h => List.mem_cons_of_mem _ h) kw_t2_76 kw_t2_77 kw_t2_78 kw_t1_5 kw_t2_79) rfl rfl rfl (by decide +kernel) ⟨Nat.le_of_ble_eq_true rfl, Nat.le_of_ble_eq_true rfl⟩) ⟨fun av U g mk q => by obtain ⟨q0, q1, qP, qK, qN⟩ := q; exact ⟨q0, q1, qP, va_K.moved (u := U) (U := U.calling g mk av) (Vm.Alike.refl U.vm) qK, mN_same qN⟩, va_recv hK hP (ci := 0) (q0 := (9 + 3 * i)) rfl (at_C hi), fun U hU hW => ⟨rfl, by rw [hU], by rw [hU]; exact hP, va_K.moved hW.alike hK, mN_warm hW hN⟩⟩ rfl rfl hl.1 rfl (lv_room (Nat.le_of_ble_eq_true rfl)) dX0_nextStepEnd_12 ⟨Nat.le_of_ble_eq_true rfl, Nat.le_of_ble_eq_true rfl⟩) hS (fun q _ h => hFc q h) hFc (fun r_5 _ t H locs ht hvm hw_5 hP _ _ hS => ?_)
    have hP := kt_heap2 ht hP
    clear ht hFc
    have hP : va_P (dC, dI) vwCl (mW cI cZ cS cC cJ a v) H := hP
    exact W.iret (v := r_5) hx hb hr (fun t ht hW => ⟨⟨r_5, (), rfl, trivial, kt_heap ht hP⟩, hS.F ht⟩) hS.2.2 dX0_nextStepEnd_15

set_option maxHeartbeats 4000000 in
set_option maxRecDepth 100000 in
theorem c_X0_followingStep (l : Launch) (dC : Nat → ClassId) (dI : Nat → Nat → Nat) (cI cZ cS cC cJ : ClassId) (a : Nat → Nat) (v : Nat → Nat → Int32) (sz : Nat) (i : Nat) (hi : i < 12) (hD : mDD a) (hI : kI v v) : Met l yX0_followingStep (Cond.code yX0_followingStep cX0_followingStep 1 (some .int) :: WW) ({ frames := 0, cells := 0, slots := 0, locals := 0 }) (va_Pc [.ref (a (9 + 3 * i))] (fun U => U.heap.size = sz ∧ va_P (dC, dI) vwCl (mW cI cZ cS cC cJ a v) U.heap ∧ va_K (dC, dI) vwCl [(cI, .int), (cZ, .boolean), (cS, .object RX3), (cC, .object RX0), (cJ, .long)] U ∧ mN U)) (va_Qi (fun (r : Int32) (_u : Unit) => True) (fun (_ : Unit) (t : State) => va_P (dC, dI) vwCl (mW cI cZ cS cC cJ a v) t.heap) (mA a sz)) 0 0 (mA a sz) := by
  refine Met.ofW (cc := cX0_followingStep) (maxL := 1) (ret := (some .int)) (by decide) rfl ?_
  intro p e s m args below meth c s₁ B hml hv
  obtain ⟨rfl, hsz, hP, hK, hN⟩ := hv
  have hx := B.exec
  have hb := B.bytes
  have hr := B.returns
  have hts := atoms_spec (ws := Cond.code yX0_followingStep cX0_followingStep 1 (some .int) :: WW) B.pre
  have hown : s.vm.findClass RX0 = some m.cls := findClass_of_methodNamed B.named
  have hlocks := B.notSynchronized
  subst hsz
  have hAc : ∀ c, c < 81 → mA a s.heap.size (a c) := fun c h => Or.inl ⟨c, h, rfl⟩
  have hA : ∀ q : Nat, s.heap.size ≤ q → mA a s.heap.size q := fun q h => Or.inr h
  generalize hAe : mA a s.heap.size = A at hAc hA ⊢
  have hS : va_S A s.heap s.heap [] := va_S.rf
  have hl := lv_entry ([.ref (a (9 + 3 * i))]) (n := 1) (Nat.le_of_ble_eq_true rfl)
  rw [lg_entry_eq]
  generalize (lg_sl ([.ref (a (9 + 3 * i))]) ++ List.replicate (1 - (lg_sl ([.ref (a (9 + 3 * i))])).length) Slot.unset).toArray = ls at hl ⊢
  have hl : lv_has ls 1 [(0, .ref (a (9 + 3 * i)))] := hl
  refine lv_aload_n hx hb dX0_followingStep_0 rfl (lv_at hl 0 rfl) ?_
  refine va_get (D := (dC, dI)) (ci := 0) (v := .int (v (9 + 3 * i) 4)) (C := RX0) (T := TX0) (N := 9) hx hb hts (fun w h => List.mem_cons_of_mem _ (inWX0 w h)) hown hK hP (9 + 3 * i) (at_C hi) rfl 4 (by decide) (hts _ (List.mem_cons_of_mem _ kw_t1_130)) (fun _ h9 => h9) rfl dX0_followingStep_1 ?_
  refine lv_topi (fun t_1 et_1 => ?_)
  rcases kt_sw_1_5 t_1 with g_2 | g_2 | g_2 | g_2 | g_2 | g_2
  · refine lv_tableIn (off := 36) (tgt := 40) hx hb dX0_followingStep_4 (by rw [g_2]; decide) (by rw [g_2]; decide) (by rw [g_2]; decide) (by decide) ?_
    refine lv_aload_n hx hb dX0_followingStep_40 rfl (lv_at hl 0 rfl) ?_
    refine va_get (D := (dC, dI)) (ci := 0) (v := .int (v (9 + 3 * i) 8)) (C := RX0) (T := TX0) (N := 9) hx hb hts (fun w h => List.mem_cons_of_mem _ (inWX0 w h)) hown hK hP (9 + 3 * i) (at_C hi) rfl 8 (by decide) (hts _ (List.mem_cons_of_mem _ kw_t1_137)) (fun _ h9 => h9) rfl dX0_followingStep_41 ?_
    refine lv_topi (fun t_3 et_3 => ?_)
    refine lv_if_eq (tgt := 51) hx hb dX0_followingStep_44 (by decide) (fun c_4 => ?_) (fun c_4 => ?_)
    · refine lv_iconst (v := 2) hx hb dX0_followingStep_51 (by decide) ?_
      exact W.iret (v := 2) hx hb hr (fun t ht hW => ⟨⟨2, (), rfl, trivial, kt_heap ht hP⟩, hS.F ht⟩) hS.2.2 dX0_followingStep_52
    · refine lv_iconst (v := 4) hx hb dX0_followingStep_47 (by decide) ?_
      refine lv_goto (tgt := 52) hx hb dX0_followingStep_48 (by decide) ?_
      exact W.iret (v := 4) hx hb hr (fun t ht hW => ⟨⟨4, (), rfl, trivial, kt_heap ht hP⟩, hS.F ht⟩) hS.2.2 dX0_followingStep_52
  · refine lv_tableIn (off := 49) (tgt := 53) hx hb dX0_followingStep_4 (by rw [g_2]; decide) (by rw [g_2]; decide) (by rw [g_2]; decide) (by decide) ?_
    refine lv_aload_n hx hb dX0_followingStep_53 rfl (lv_at hl 0 rfl) ?_
    refine va_get (D := (dC, dI)) (ci := 0) (v := .int (v (9 + 3 * i) 8)) (C := RX0) (T := TX0) (N := 9) hx hb hts (fun w h => List.mem_cons_of_mem _ (inWX0 w h)) hown hK hP (9 + 3 * i) (at_C hi) rfl 8 (by decide) (hts _ (List.mem_cons_of_mem _ kw_t1_137)) (fun _ h9 => h9) rfl dX0_followingStep_54 ?_
    refine lv_topi (fun t_5 et_5 => ?_)
    refine lv_if_eq (tgt := 64) hx hb dX0_followingStep_57 (by decide) (fun c_6 => ?_) (fun c_6 => ?_)
    · refine lv_iconst (v := 3) hx hb dX0_followingStep_64 (by decide) ?_
      exact W.iret (v := 3) hx hb hr (fun t ht hW => ⟨⟨3, (), rfl, trivial, kt_heap ht hP⟩, hS.F ht⟩) hS.2.2 dX0_followingStep_65
    · refine lv_iconst (v := 0) hx hb dX0_followingStep_60 (by decide) ?_
      refine lv_goto (tgt := 65) hx hb dX0_followingStep_61 (by decide) ?_
      exact W.iret (v := 0) hx hb hr (fun t ht hW => ⟨⟨0, (), rfl, trivial, kt_heap ht hP⟩, hS.F ht⟩) hS.2.2 dX0_followingStep_65
  · refine lv_tableIn (off := 62) (tgt := 66) hx hb dX0_followingStep_4 (by rw [g_2]; decide) (by rw [g_2]; decide) (by rw [g_2]; decide) (by decide) ?_
    refine lv_iconst (v := 4) hx hb dX0_followingStep_66 (by decide) ?_
    exact W.iret (v := 4) hx hb hr (fun t ht hW => ⟨⟨4, (), rfl, trivial, kt_heap ht hP⟩, hS.F ht⟩) hS.2.2 dX0_followingStep_67
  · refine lv_tableIn (off := 64) (tgt := 68) hx hb dX0_followingStep_4 (by rw [g_2]; decide) (by rw [g_2]; decide) (by rw [g_2]; decide) (by decide) ?_
    refine lv_aload_n hx hb dX0_followingStep_68 rfl (lv_at hl 0 rfl) ?_
    refine va_get (D := (dC, dI)) (ci := 0) (v := .int (v (9 + 3 * i) 8)) (C := RX0) (T := TX0) (N := 9) hx hb hts (fun w h => List.mem_cons_of_mem _ (inWX0 w h)) hown hK hP (9 + 3 * i) (at_C hi) rfl 8 (by decide) (hts _ (List.mem_cons_of_mem _ kw_t1_137)) (fun _ h9 => h9) rfl dX0_followingStep_69 ?_
    refine lv_topi (fun t_7 et_7 => ?_)
    refine lv_if_eq (tgt := 79) hx hb dX0_followingStep_72 (by decide) (fun c_8 => ?_) (fun c_8 => ?_)
    · refine lv_iconst (v := 0) hx hb dX0_followingStep_79 (by decide) ?_
      exact W.iret (v := 0) hx hb hr (fun t ht hW => ⟨⟨0, (), rfl, trivial, kt_heap ht hP⟩, hS.F ht⟩) hS.2.2 dX0_followingStep_80
    · refine lv_iconst (v := 2) hx hb dX0_followingStep_75 (by decide) ?_
      refine lv_goto (tgt := 80) hx hb dX0_followingStep_76 (by decide) ?_
      exact W.iret (v := 2) hx hb hr (fun t ht hW => ⟨⟨2, (), rfl, trivial, kt_heap ht hP⟩, hS.F ht⟩) hS.2.2 dX0_followingStep_80
  · refine lv_tableIn (off := 77) (tgt := 81) hx hb dX0_followingStep_4 (by rw [g_2]; decide) (by rw [g_2]; decide) (by rw [g_2]; decide) (by decide) ?_
    refine lv_iconst (v := 2) hx hb dX0_followingStep_81 (by decide) ?_
    exact W.iret (v := 2) hx hb hr (fun t ht hW => ⟨⟨2, (), rfl, trivial, kt_heap ht hP⟩, hS.F ht⟩) hS.2.2 dX0_followingStep_82
  · refine lv_tableOut (tgt := 83) hx hb dX0_followingStep_4 g_2 (by decide) ?_
    refine lv_iconst (v := 0) hx hb dX0_followingStep_83 (by decide) ?_
    exact W.iret (v := 0) hx hb hr (fun t ht hW => ⟨⟨0, (), rfl, trivial, kt_heap ht hP⟩, hS.F ht⟩) hS.2.2 dX0_followingStep_84

set_option maxHeartbeats 4000000 in
set_option maxRecDepth 100000 in
theorem c_X0_act (l : Launch) (dC : Nat → ClassId) (dI : Nat → Nat → Nat) (cI cZ cS cC cJ : ClassId) (a : Nat → Nat) (v : Nat → Nat → Int32) (sz : Nat) (i : Nat) (hi : i < 12) (p0 : Int32) (hD : mDD a) (hI : kI v v) : Met l yX0_act (Cond.code yX0_act cX0_act 3 none :: WW) ({ frames := 0, cells := 0, slots := 0, locals := 0 }) (va_Pc [.ref (a (9 + 3 * i)), .int p0] (fun U => U.heap.size = sz ∧ va_P (dC, dI) vwCl (mW cI cZ cS cC cJ a v) U.heap ∧ va_K (dC, dI) vwCl [(cI, .int), (cZ, .boolean), (cS, .object RX3), (cC, .object RX0), (cJ, .long)] U ∧ mN U)) (va_Qv (fun (u : Nat → Nat → Int32) => kI v u) (fun (u : Nat → Nat → Int32) (t : State) => va_P (dC, dI) vwCl (mW cI cZ cS cC cJ a u) t.heap) (mA a sz)) 0 0 (mA a sz) := by
  refine Met.ofW (cc := cX0_act) (maxL := 3) (ret := none) (by decide) rfl ?_
  intro p e s m args below meth c s₁ B hml hv
  obtain ⟨rfl, hsz, hP, hK, hN⟩ := hv
  have hx := B.exec
  have hb := B.bytes
  have hr := B.returns
  have hts := atoms_spec (ws := Cond.code yX0_act cX0_act 3 none :: WW) B.pre
  have hown : s.vm.findClass RX0 = some m.cls := findClass_of_methodNamed B.named
  have hlocks := B.notSynchronized
  subst hsz
  have hAc : ∀ c, c < 81 → mA a s.heap.size (a c) := fun c h => Or.inl ⟨c, h, rfl⟩
  have hA : ∀ q : Nat, s.heap.size ≤ q → mA a s.heap.size q := fun q h => Or.inr h
  generalize hAe : mA a s.heap.size = A at hAc hA ⊢
  have hS : va_S A s.heap s.heap [] := va_S.rf
  have hl := lv_entry ([.ref (a (9 + 3 * i)), .int p0]) (n := 3) (Nat.le_of_ble_eq_true rfl)
  rw [lg_entry_eq]
  generalize (lg_sl ([.ref (a (9 + 3 * i)), .int p0]) ++ List.replicate (3 - (lg_sl ([.ref (a (9 + 3 * i)), .int p0])).length) Slot.unset).toArray = ls at hl ⊢
  have hl : lv_has ls 3 [(0, .ref (a (9 + 3 * i))), (1, .int p0)] := hl
  refine lv_iload_n hx hb dX0_act_0 rfl (lv_at hl 1 rfl) ?_
  refine lv_bipush (v := 10) hx hb dX0_act_1 (by decide) ?_
  refine lv_icmp_ge (tgt := 22) hx hb dX0_act_3 (by decide) (fun c_1 => ?_) (fun c_1 => ?_)
  · refine lv_iconst (v := 1) hx hb dX0_act_22 (by decide) ?_
    refine lv_iload_n hx hb dX0_act_23 rfl (lv_at hl 1 rfl) ?_
    refine lv_bipush (v := 10) hx hb dX0_act_24 (by decide) ?_
    refine lv_isub hx hb dX0_act_26 ?_
    refine lv_topi (fun t_2 et_2 => ?_)
    refine lv_ishl hx hb dX0_act_27 ?_
    refine lv_topi (fun t_3 et_3 => ?_)
    refine lv_istore_n (lv' := [(2, .int t_3), (0, .ref (a (9 + 3 * i))), (1, .int p0)]) hx hb dX0_act_28 rfl hl (by decide) rfl (fun ls hl => ?_)
    refine lv_aload_n hx hb dX0_act_29 rfl (lv_at hl 1 rfl) ?_
    refine va_get (D := (dC, dI)) (ci := 0) (v := .ref (a (10 + 3 * i))) (C := RX0) (T := TX0) (N := 9) hx hb hts (fun w h => List.mem_cons_of_mem _ (inWX0 w h)) hown hK hP (9 + 3 * i) (at_C hi) rfl 0 (by decide) (hts _ (List.mem_cons_of_mem _ kw_t1_124)) (fun _ h9 => h9) rfl dX0_act_30 ?_
    refine lv_dup hx hb dX0_act_33 rfl ?_
    refine va_get (D := (dC, dI)) (ci := 3) (v := .int (v (10 + 3 * i) 8)) (C := RX3) (T := TX3) (N := 10) hx hb hts (fun w h => List.mem_cons_of_mem _ (inWX3 w h)) hown hK hP (10 + 3 * i) (at_S hi) rfl 8 (by decide) (hts _ (List.mem_cons_of_mem _ kw_t1_100)) (fun _ h9 => h9) rfl dX0_act_34 ?_
    refine lv_topi (fun t_4 et_4 => ?_)
    refine lv_iload_n hx hb dX0_act_37 rfl (lv_at hl 0 rfl) ?_
    refine lv_ior hx hb dX0_act_38 ?_
    refine lv_topi (fun t_5 et_5 => ?_)
    refine va_put (D := (dC, dI)) (ci := 3) (v := .int t_5) (ty := .int) (C := RX3) (T := TX3) (N := 10) hx hb hts (fun w h => List.mem_cons_of_mem _ (inWX3 w h)) tyX3 tyX3_ok nmX3 hown hK hP (mD_of hD hAc) hS (10 + 3 * i) (at_S hi) rfl 8 (by decide) (hts _ (List.mem_cons_of_mem _ kw_t1_100)) (fun _ h9 => h9) rfl (by decide +kernel) rfl rfl (Nat.le_of_ble_eq_true rfl) dX0_act_39 (fun H locs hP _ hS => ?_)
    obtain ⟨v_6, ev_6⟩ : ∃ z, z = mU v (10 + 3 * i) (upd (v (10 + 3 * i)) 8 t_5) := ⟨_, rfl⟩
    have hP : va_P (dC, dI) vwCl (mW cI cZ cS cC cJ a v_6) H := by rw [ev_6]; exact mW_put hP (by omega) (by rw [gE_S hi]; rfl)
    have hI := hI.put ev_6 (by omega)
    refine lv_aload_n hx hb dX0_act_42 rfl (lv_at hl 1 rfl) ?_
    refine va_get (D := (dC, dI)) (ci := 0) (v := .int (v_6 (9 + 3 * i) 4)) (C := RX0) (T := TX0) (N := 9) hx hb hts (fun w h => List.mem_cons_of_mem _ (inWX0 w h)) hown hK hP (9 + 3 * i) (at_C hi) rfl 4 (by decide) (hts _ (List.mem_cons_of_mem _ kw_t1_130)) (fun _ h9 => h9) rfl dX0_act_43 ?_
    refine lv_topi (fun t_7 et_7 => ?_)
    refine lv_iconst (v := 1) hx hb dX0_act_46 (by decide) ?_
    refine lv_icmp_eq (tgt := 65) hx hb dX0_act_47 (by decide) (fun c_8 => ?_) (fun c_8 => ?_)
    · exact W.vret hx hb hr (fun t ht hW => ⟨⟨v_6, rfl, hI, kt_heap ht hP⟩, hS.F ht⟩) hS.2.2 dX0_act_65
    · refine lv_aload_n hx hb dX0_act_50 rfl (lv_at hl 1 rfl) ?_
      refine va_get (D := (dC, dI)) (ci := 0) (v := .ref (a (10 + 3 * i))) (C := RX0) (T := TX0) (N := 9) hx hb hts (fun w h => List.mem_cons_of_mem _ (inWX0 w h)) hown hK hP (9 + 3 * i) (at_C hi) rfl 0 (by decide) (hts _ (List.mem_cons_of_mem _ kw_t1_124)) (fun _ h9 => h9) rfl dX0_act_51 ?_
      refine lv_dup hx hb dX0_act_54 rfl ?_
      refine va_get (D := (dC, dI)) (ci := 3) (v := .int (v_6 (10 + 3 * i) 9)) (C := RX3) (T := TX3) (N := 10) hx hb hts (fun w h => List.mem_cons_of_mem _ (inWX3 w h)) hown hK hP (10 + 3 * i) (at_S hi) rfl 9 (by decide) (hts _ (List.mem_cons_of_mem _ kw_t1_102)) (fun _ h9 => h9) rfl dX0_act_55 ?_
      refine lv_topi (fun t_9 et_9 => ?_)
      refine lv_iload_n hx hb dX0_act_58 rfl (lv_at hl 0 rfl) ?_
      refine lv_iconst (v := (-1)) hx hb dX0_act_59 (by decide) ?_
      refine lv_ixor hx hb dX0_act_60 ?_
      refine lv_topi (fun t_10 et_10 => ?_)
      refine lv_iand hx hb dX0_act_61 ?_
      refine lv_topi (fun t_11 et_11 => ?_)
      refine va_put (D := (dC, dI)) (ci := 3) (v := .int t_11) (ty := .int) (C := RX3) (T := TX3) (N := 10) hx hb hts (fun w h => List.mem_cons_of_mem _ (inWX3 w h)) tyX3 tyX3_ok nmX3 hown hK hP (mD_of hD hAc) hS (10 + 3 * i) (at_S hi) rfl 9 (by decide) (hts _ (List.mem_cons_of_mem _ kw_t1_102)) (fun _ h9 => h9) rfl (by decide +kernel) rfl rfl (Nat.le_of_ble_eq_true rfl) dX0_act_62 (fun H locs hP _ hS => ?_)
      obtain ⟨v_12, ev_12⟩ : ∃ z, z = mU v_6 (10 + 3 * i) (upd (v_6 (10 + 3 * i)) 9 t_11) := ⟨_, rfl⟩
      have hP : va_P (dC, dI) vwCl (mW cI cZ cS cC cJ a v_12) H := by rw [ev_12]; exact mW_put hP (by omega) (by rw [gE_S hi]; rfl)
      have hI := hI.put ev_12 (by omega)
      exact W.vret hx hb hr (fun t ht hW => ⟨⟨v_12, rfl, hI, kt_heap ht hP⟩, hS.F ht⟩) hS.2.2 dX0_act_65
  · refine lv_aload_n hx hb dX0_act_6 rfl (lv_at hl 0 rfl) ?_
    refine va_get (D := (dC, dI)) (ci := 0) (v := .ref (a (10 + 3 * i))) (C := RX0) (T := TX0) (N := 9) hx hb hts (fun w h => List.mem_cons_of_mem _ (inWX0 w h)) hown hK hP (9 + 3 * i) (at_C hi) rfl 0 (by decide) (hts _ (List.mem_cons_of_mem _ kw_t1_124)) (fun _ h9 => h9) rfl dX0_act_7 ?_
    refine lv_dup hx hb dX0_act_10 rfl ?_
    refine va_get (D := (dC, dI)) (ci := 3) (v := .int (v (10 + 3 * i) 7)) (C := RX3) (T := TX3) (N := 10) hx hb hts (fun w h => List.mem_cons_of_mem _ (inWX3 w h)) hown hK hP (10 + 3 * i) (at_S hi) rfl 7 (by decide) (hts _ (List.mem_cons_of_mem _ kw_t1_98)) (fun _ h9 => h9) rfl dX0_act_11 ?_
    refine lv_topi (fun t_13 et_13 => ?_)
    refine lv_iconst (v := 1) hx hb dX0_act_14 (by decide) ?_
    refine lv_iload_n hx hb dX0_act_15 rfl (lv_at hl 1 rfl) ?_
    refine lv_ishl hx hb dX0_act_16 ?_
    refine lv_topi (fun t_14 et_14 => ?_)
    refine lv_ior hx hb dX0_act_17 ?_
    refine lv_topi (fun t_15 et_15 => ?_)
    refine va_put (D := (dC, dI)) (ci := 3) (v := .int t_15) (ty := .int) (C := RX3) (T := TX3) (N := 10) hx hb hts (fun w h => List.mem_cons_of_mem _ (inWX3 w h)) tyX3 tyX3_ok nmX3 hown hK hP (mD_of hD hAc) hS (10 + 3 * i) (at_S hi) rfl 7 (by decide) (hts _ (List.mem_cons_of_mem _ kw_t1_98)) (fun _ h9 => h9) rfl (by decide +kernel) rfl rfl (Nat.le_of_ble_eq_true rfl) dX0_act_18 (fun H locs hP _ hS => ?_)
    obtain ⟨v_16, ev_16⟩ : ∃ z, z = mU v (10 + 3 * i) (upd (v (10 + 3 * i)) 7 t_15) := ⟨_, rfl⟩
    have hP : va_P (dC, dI) vwCl (mW cI cZ cS cC cJ a v_16) H := by rw [ev_16]; exact mW_put hP (by omega) (by rw [gE_S hi]; rfl)
    have hI := hI.put ev_16 (by omega)
    exact W.vret hx hb hr (fun t ht hW => ⟨⟨v_16, rfl, hI, kt_heap ht hP⟩, hS.F ht⟩) hS.2.2 dX0_act_21

set_option maxHeartbeats 4000000 in
set_option maxRecDepth 100000 in
theorem c_X0_notePass (l : Launch) (dC : Nat → ClassId) (dI : Nat → Nat → Nat) (cI cZ cS cC cJ : ClassId) (a : Nat → Nat) (v : Nat → Nat → Int32) (sz : Nat) (i : Nat) (hi : i < 12) (p0 p1 p2 : Int32) (hD : mDD a) (hI : kI v v) : Met l yX0_notePass (Cond.code yX0_notePass cX0_notePass 4 none :: WW) ({ frames := 1, cells := 0, slots := 0, locals := 30 }) (va_Pc [.ref (a (9 + 3 * i)), .int p0, .int p1, .int p2] (fun U => U.heap.size = sz ∧ va_P (dC, dI) vwCl (mW cI cZ cS cC cJ a v) U.heap ∧ va_K (dC, dI) vwCl [(cI, .int), (cZ, .boolean), (cS, .object RX3), (cC, .object RX0), (cJ, .long)] U ∧ mN U)) (va_Qv (fun (u : Nat → Nat → Int32) => kI v u) (fun (u : Nat → Nat → Int32) (t : State) => va_P (dC, dI) vwCl (mW cI cZ cS cC cJ a u) t.heap) (mA a sz)) 0 0 (mA a sz) := by
  refine Met.ofW (cc := cX0_notePass) (maxL := 4) (ret := none) (by decide) rfl ?_
  intro p e s m args below meth c s₁ B hml hv
  obtain ⟨rfl, hsz, hP, hK, hN⟩ := hv
  have hx := B.exec
  have hb := B.bytes
  have hr := B.returns
  have hts := atoms_spec (ws := Cond.code yX0_notePass cX0_notePass 4 none :: WW) B.pre
  have hown : s.vm.findClass RX0 = some m.cls := findClass_of_methodNamed B.named
  have hlocks := B.notSynchronized
  subst hsz
  have hAc : ∀ c, c < 81 → mA a s.heap.size (a c) := fun c h => Or.inl ⟨c, h, rfl⟩
  have hA : ∀ q : Nat, s.heap.size ≤ q → mA a s.heap.size q := fun q h => Or.inr h
  generalize hAe : mA a s.heap.size = A at hAc hA ⊢
  have hS : va_S A s.heap s.heap [] := va_S.rf
  have hl := lv_entry ([.ref (a (9 + 3 * i)), .int p0, .int p1, .int p2]) (n := 4) (Nat.le_of_ble_eq_true rfl)
  rw [lg_entry_eq]
  generalize (lg_sl ([.ref (a (9 + 3 * i)), .int p0, .int p1, .int p2]) ++ List.replicate (4 - (lg_sl ([.ref (a (9 + 3 * i)), .int p0, .int p1, .int p2])).length) Slot.unset).toArray = ls at hl ⊢
  have hl : lv_has ls 4 [(0, .ref (a (9 + 3 * i))), (1, .int p0), (2, .int p1), (3, .int p2)] := hl
  refine lv_aload_n hx hb dX0_notePass_0 rfl (lv_at hl 0 rfl) ?_
  have hFc := mA_free (a := a) hS hA hAc
  refine va_calli (va_runV (As := []) (rest := []) ⟨hx, hb, hml, hown, hts⟩ (c_X0_goesOn l dC dI cI cZ cS cC cJ a v s.heap.size i hi hD hI.self) (cwV 0 hts (gV (fun w h => List.mem_cons_of_mem _ h) kw_t2_84 kw_t2_7 kw_t2_8 kw_t1_5 kw_t2_9) rfl rfl rfl (by decide +kernel) ⟨Nat.le_of_ble_eq_true rfl, Nat.le_of_ble_eq_true rfl⟩) ⟨fun av U g mk q => by obtain ⟨q0, q1, qP, qK, qN⟩ := q; exact ⟨q0, q1, qP, va_K.moved (u := U) (U := U.calling g mk av) (Vm.Alike.refl U.vm) qK, mN_same qN⟩, va_recv hK hP (ci := 0) (q0 := (9 + 3 * i)) rfl (at_C hi), fun U hU hW => ⟨rfl, by rw [hU], by rw [hU]; exact hP, va_K.moved hW.alike hK, mN_warm hW hN⟩⟩ rfl rfl hl.1 rfl (lv_room (Nat.le_of_ble_eq_true rfl)) dX0_notePass_1 ⟨Nat.le_of_ble_eq_true rfl, Nat.le_of_ble_eq_true rfl⟩) hS (fun q _ h => hFc q h) hFc (fun r_1 _ t H locs ht hvm hw_1 hP _ _ hS => ?_)
  have hP := kt_heap2 ht hP
  clear ht hFc
  have hP : va_P (dC, dI) vwCl (mW cI cZ cS cC cJ a v) H := hP
  refine lv_if_eq (tgt := 35) hx hb dX0_notePass_4 (by decide) (fun c_2 => ?_) (fun c_2 => ?_)
  · exact W.vret hx hb hr (fun t ht hW => ⟨⟨v, rfl, hI, kt_heap ht hP⟩, hS.F ht⟩) hS.2.2 dX0_notePass_35
  · refine lv_iload_n hx hb dX0_notePass_7 rfl (lv_at hl 2 rfl) ?_
    refine lv_aload_n hx hb dX0_notePass_8 rfl (lv_at hl 0 rfl) ?_
    refine va_get (D := (dC, dI)) (ci := 0) (v := .ref (a (10 + 3 * i))) (C := RX0) (T := TX0) (N := 9) hx hb hts (fun w h => List.mem_cons_of_mem _ (inWX0 w h)) hown hK hP (9 + 3 * i) (at_C hi) rfl 0 (by decide) (hts _ (List.mem_cons_of_mem _ kw_t1_124)) (fun _ h9 => h9) rfl dX0_notePass_9 ?_
    refine va_get (D := (dC, dI)) (ci := 3) (v := .int (v (10 + 3 * i) 4)) (C := RX3) (T := TX3) (N := 10) hx hb hts (fun w h => List.mem_cons_of_mem _ (inWX3 w h)) hown hK hP (10 + 3 * i) (at_S hi) rfl 4 (by decide) (hts _ (List.mem_cons_of_mem _ kw_t1_93)) (fun _ h9 => h9) rfl dX0_notePass_12 ?_
    refine lv_topi (fun t_3 et_3 => ?_)
    refine lv_icmp_ge (tgt := 35) hx hb dX0_notePass_15 (by decide) (fun c_4 => ?_) (fun c_4 => ?_)
    · exact W.vret hx hb hr (fun t ht hW => ⟨⟨v, rfl, hI, kt_heap ht hP⟩, hS.F ht⟩) hS.2.2 dX0_notePass_35
    · refine lv_aload_n hx hb dX0_notePass_18 rfl (lv_at hl 0 rfl) ?_
      refine lv_dup hx hb dX0_notePass_19 rfl ?_
      refine va_get (D := (dC, dI)) (ci := 0) (v := .int (v (9 + 3 * i) 6)) (C := RX0) (T := TX0) (N := 9) hx hb hts (fun w h => List.mem_cons_of_mem _ (inWX0 w h)) hown hK hP (9 + 3 * i) (at_C hi) rfl 6 (by decide) (hts _ (List.mem_cons_of_mem _ kw_t1_134)) (fun _ h9 => h9) rfl dX0_notePass_20 ?_
      refine lv_topi (fun t_5 et_5 => ?_)
      refine lv_iconst (v := 1) hx hb dX0_notePass_23 (by decide) ?_
      refine lv_iload_n hx hb dX0_notePass_24 rfl (lv_at hl 1 rfl) ?_
      refine lv_ishl hx hb dX0_notePass_25 ?_
      refine lv_topi (fun t_6 et_6 => ?_)
      refine lv_ior hx hb dX0_notePass_26 ?_
      refine lv_topi (fun t_7 et_7 => ?_)
      refine va_put (D := (dC, dI)) (ci := 0) (v := .int t_7) (ty := .int) (C := RX0) (T := TX0) (N := 9) hx hb hts (fun w h => List.mem_cons_of_mem _ (inWX0 w h)) tyX0 tyX0_ok nmX0 hown hK hP (mD_of hD hAc) hS (9 + 3 * i) (at_C hi) rfl 6 (by decide) (hts _ (List.mem_cons_of_mem _ kw_t1_134)) (fun _ h9 => h9) rfl (by decide +kernel) rfl rfl (Nat.le_of_ble_eq_true rfl) dX0_notePass_27 (fun H locs hP _ hS => ?_)
      obtain ⟨v_8, ev_8⟩ : ∃ z, z = mU v (9 + 3 * i) (upd (v (9 + 3 * i)) 6 t_7) := ⟨_, rfl⟩
      have hP : va_P (dC, dI) vwCl (mW cI cZ cS cC cJ a v_8) H := by rw [ev_8]; exact mW_put hP (by omega) (by rw [gE_C hi]; rfl)
      have hI := hI.put ev_8 (by omega)
      refine lv_aload_n hx hb dX0_notePass_30 rfl (lv_at hl 0 rfl) ?_
      refine lv_iload_n hx hb dX0_notePass_31 rfl (lv_at hl 3 rfl) ?_
      refine va_put (D := (dC, dI)) (ci := 0) (v := .int p2) (ty := .int) (C := RX0) (T := TX0) (N := 9) hx hb hts (fun w h => List.mem_cons_of_mem _ (inWX0 w h)) tyX0 tyX0_ok nmX0 hown hK hP (mD_of hD hAc) hS (9 + 3 * i) (at_C hi) rfl 7 (by decide) (hts _ (List.mem_cons_of_mem _ kw_t1_136)) (fun _ h9 => h9) rfl (by decide +kernel) rfl rfl (Nat.le_of_ble_eq_true rfl) dX0_notePass_32 (fun H locs hP _ hS => ?_)
      obtain ⟨v_9, ev_9⟩ : ∃ z, z = mU v_8 (9 + 3 * i) (upd (v_8 (9 + 3 * i)) 7 p2) := ⟨_, rfl⟩
      have hP : va_P (dC, dI) vwCl (mW cI cZ cS cC cJ a v_9) H := by rw [ev_9]; exact mW_put hP (by omega) (by rw [gE_C hi]; rfl)
      have hI := hI.put ev_9 (by omega)
      exact W.vret hx hb hr (fun t ht hW => ⟨⟨v_9, rfl, hI, kt_heap ht hP⟩, hS.F ht⟩) hS.2.2 dX0_notePass_35
